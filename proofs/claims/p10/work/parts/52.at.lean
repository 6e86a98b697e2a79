/-! ===== the class: a thing, a scope, a task by its number ===== -/
abbrev inW (c : Nat → Int) (k n : Nat) (i : Int) : Prop := 0 ≤ i ∧ i < c k ∧ i < n
def thAt (w : Nat) (c : Nat → Int) (i : Int) : Option Nat := if inW c 0 90 i then some (wT w i.toNat) else none
def scAt (w : Nat) (c : Nat → Int) (i : Int) : Option Nat := if inW c 1 60 i then some (wS w i.toNat) else none
def tkAt (w : Nat) (c : Nat → Int) (i : Int) : Option Nat := if inW c 2 10 i then some (wK w i.toNat) else none
section AT
variable {w : Nat} {c : Nat → Int} {i : Int} {v : Option Value}
theorem thAt_p (h : inW c 0 90 i) : thAt w c i = some (wT w i.toNat) := by unfold thAt; rw [if_pos h]
theorem thAt_n (h : ¬ inW c 0 90 i) : thAt w c i = none := by unfold thAt; rw [if_neg h]
theorem thAt_P (h : inW c 0 90 i) (q : v = some (va_rf (thAt w c i))) : v = some (.ref (wT w i.toNat)) := by rw [q, thAt_p h]; rfl
theorem thAt_N (h : ¬ inW c 0 90 i) (q : v = some (va_rf (thAt w c i))) : v = some .null := by rw [q, thAt_n h]; rfl
theorem scAt_p (h : inW c 1 60 i) : scAt w c i = some (wS w i.toNat) := by unfold scAt; rw [if_pos h]
theorem scAt_n (h : ¬ inW c 1 60 i) : scAt w c i = none := by unfold scAt; rw [if_neg h]
theorem scAt_P (h : inW c 1 60 i) (q : v = some (va_rf (scAt w c i))) : v = some (.ref (wS w i.toNat)) := by rw [q, scAt_p h]; rfl
theorem scAt_N (h : ¬ inW c 1 60 i) (q : v = some (va_rf (scAt w c i))) : v = some .null := by rw [q, scAt_n h]; rfl
theorem tkAt_p (h : inW c 2 10 i) : tkAt w c i = some (wK w i.toNat) := by unfold tkAt; rw [if_pos h]
theorem tkAt_n (h : ¬ inW c 2 10 i) : tkAt w c i = none := by unfold tkAt; rw [if_neg h]
theorem tkAt_P (h : inW c 2 10 i) (q : v = some (va_rf (tkAt w c i))) : v = some (.ref (wK w i.toNat)) := by rw [q, tkAt_p h]; rfl
theorem tkAt_N (h : ¬ inW c 2 10 i) (q : v = some (va_rf (tkAt w c i))) : v = some .null := by rw [q, tkAt_n h]; rfl
end AT
set_option maxHeartbeats 4000000 in
set_option maxRecDepth 100000 in
theorem cw_thingAt {G : mG} {l : Launch} (d : Nat) {h : mH} {w : Nat} {c : Nat → Int} {C : Nat → Nat → Int} {nm : Nat → Int64} {g : Nat → Option Nat} (hW : isW h w c C nm g) (hc : ∀ q, InR (c q)) {i : Int} (hi : InR i) : RUNM G l (d) mX9_thingAt [.ref w, .int (J i)] h (fun v h' => v = some (va_rf (thAt w c i)) ∧ h' = h) := by
  refine RUNM.of (by decide +kernel) (Nat.le_of_ble_eq_true rfl) ?_
  have r0 := hc 0
  refine r_iload_n (pc := 0) dX9_thingAt_0 rfl ?_
  refine rj_if_lt (pc := 1) (tgt := 21) dX9_thingAt_1 (by decide) (by first | exact b01_r | exact bz_r | omega | (constructor <;> omega) | apply_assumption | (apply atF_r; assumption) | fail "no range") (fun c_1 => ?_) (fun c_1 => ?_)
  · refine r_null (pc := 21) dX9_thingAt_21 ?_
    refine r_goto (pc := 22) (tgt := 31) dX9_thingAt_22 (by decide) ?_
    refine r_areturn (pc := 31) _ dX9_thingAt_31 rfl (Or.inl ⟨_, rfl⟩) (by first | rfl | exact isRefV_rf _) ?_
    first
    | exact ⟨by rw [thAt_p (by omega)]; rfl, rfl⟩
    | exact ⟨by rw [thAt_n (by omega)]; rfl, rfl⟩
  · refine r_iload_n (pc := 4) dX9_thingAt_4 rfl ?_
    refine r_aload_n (pc := 5) dX9_thingAt_5 rfl (by first | rfl | exact isRefV_rf _) ?_
    refine r_getf (pc := 6) dX9_thingAt_6 fX9_71 (by first | assumption | exact isI.gx (by assumption) | exact isI.gc (by assumption) | exact isW.gx (by assumption) | exact isW.gF (by assumption) | exact isW.gT (by assumption) (by omega) | exact isW.gS (by assumption) (by omega) | exact isW.gK (by assumption) (by omega) | exact isW.g1 (by assumption) | exact isW.g2 (by assumption) | exact isW.g3 (by assumption) | exact isI.gx (isW.i0 (by assumption)) | exact isI.gc (isW.i0 (by assumption)) | exact isI.gx (isW.i1 (by assumption)) | exact isI.gc (isW.i1 (by assumption)) | exact isI.gx (isW.i2 (by assumption)) | exact isI.gc (isW.i2 (by assumption)) | exact isI.gx (isW.i3 (by assumption)) | exact isI.gc (isW.i3 (by assumption)) | exact isI.gx (isW.i4 (by assumption)) | exact isI.gc (isW.i4 (by assumption)) | exact isI.gx (isW.i5 (by assumption)) | exact isI.gc (isW.i5 (by assumption)) | exact isR.gx (by assumption) | exact isRd.gx (by assumption) | exact isSp.gx (by assumption) | exact isI.gx (isR.i (by assumption)) | exact isI.gx (isRd.i (by assumption)) | exact isI.gc (isRd.i (by assumption)) | exact isI.gx (isSp.i (by assumption)) | exact isW.gx (isR.w (by assumption)) | exact isW.gF (isR.w (by assumption)) | fail "no such object") (by rfl) ?_
    refine rj_icmp_ge (pc := 9) (tgt := 21) dX9_thingAt_9 (by decide) (by first | exact b01_r | exact bz_r | omega | (constructor <;> omega) | apply_assumption | (apply atF_r; assumption) | fail "no range") (by first | exact b01_r | exact bz_r | omega | (constructor <;> omega) | apply_assumption | (apply atF_r; assumption) | fail "no range") (fun c_9 => ?_) (fun c_9 => ?_)
    · refine r_null (pc := 21) dX9_thingAt_21 ?_
      refine r_goto (pc := 22) (tgt := 31) dX9_thingAt_22 (by decide) ?_
      refine r_areturn (pc := 31) _ dX9_thingAt_31 rfl (Or.inl ⟨_, rfl⟩) (by first | rfl | exact isRefV_rf _) ?_
      first
      | exact ⟨by rw [thAt_p (by omega)]; rfl, rfl⟩
      | exact ⟨by rw [thAt_n (by omega)]; rfl, rfl⟩
    · refine r_iload_n (pc := 12) dX9_thingAt_12 rfl ?_
      refine r_aload_n (pc := 13) dX9_thingAt_13 rfl (by first | rfl | exact isRefV_rf _) ?_
      refine r_getf (pc := 14) dX9_thingAt_14 fX9_11 (by first | assumption | exact isI.gx (by assumption) | exact isI.gc (by assumption) | exact isW.gx (by assumption) | exact isW.gF (by assumption) | exact isW.gT (by assumption) (by omega) | exact isW.gS (by assumption) (by omega) | exact isW.gK (by assumption) (by omega) | exact isW.g1 (by assumption) | exact isW.g2 (by assumption) | exact isW.g3 (by assumption) | exact isI.gx (isW.i0 (by assumption)) | exact isI.gc (isW.i0 (by assumption)) | exact isI.gx (isW.i1 (by assumption)) | exact isI.gc (isW.i1 (by assumption)) | exact isI.gx (isW.i2 (by assumption)) | exact isI.gc (isW.i2 (by assumption)) | exact isI.gx (isW.i3 (by assumption)) | exact isI.gc (isW.i3 (by assumption)) | exact isI.gx (isW.i4 (by assumption)) | exact isI.gc (isW.i4 (by assumption)) | exact isI.gx (isW.i5 (by assumption)) | exact isI.gc (isW.i5 (by assumption)) | exact isR.gx (by assumption) | exact isRd.gx (by assumption) | exact isSp.gx (by assumption) | exact isI.gx (isR.i (by assumption)) | exact isI.gx (isRd.i (by assumption)) | exact isI.gc (isRd.i (by assumption)) | exact isI.gx (isSp.i (by assumption)) | exact isW.gx (isR.w (by assumption)) | exact isW.gF (isR.w (by assumption)) | fail "no such object") (by rfl) ?_
      first | refine rj_alen (pc := 17) dX9_thingAt_17 (by first | assumption | exact isI.gx (by assumption) | exact isI.gc (by assumption) | exact isW.gx (by assumption) | exact isW.gF (by assumption) | exact isW.gT (by assumption) (by omega) | exact isW.gS (by assumption) (by omega) | exact isW.gK (by assumption) (by omega) | exact isW.g1 (by assumption) | exact isW.g2 (by assumption) | exact isW.g3 (by assumption) | exact isI.gx (isW.i0 (by assumption)) | exact isI.gc (isW.i0 (by assumption)) | exact isI.gx (isW.i1 (by assumption)) | exact isI.gc (isW.i1 (by assumption)) | exact isI.gx (isW.i2 (by assumption)) | exact isI.gc (isW.i2 (by assumption)) | exact isI.gx (isW.i3 (by assumption)) | exact isI.gc (isW.i3 (by assumption)) | exact isI.gx (isW.i4 (by assumption)) | exact isI.gc (isW.i4 (by assumption)) | exact isI.gx (isW.i5 (by assumption)) | exact isI.gc (isW.i5 (by assumption)) | exact isR.gx (by assumption) | exact isRd.gx (by assumption) | exact isSp.gx (by assumption) | exact isI.gx (isR.i (by assumption)) | exact isI.gx (isRd.i (by assumption)) | exact isI.gc (isRd.i (by assumption)) | exact isI.gx (isSp.i (by assumption)) | exact isW.gx (isR.w (by assumption)) | exact isW.gF (isR.w (by assumption)) | fail "no such object") ?_ | refine rj_alenR (pc := 17) dX9_thingAt_17 (by first | assumption | exact isI.gx (by assumption) | exact isI.gc (by assumption) | exact isW.gx (by assumption) | exact isW.gF (by assumption) | exact isW.gT (by assumption) (by omega) | exact isW.gS (by assumption) (by omega) | exact isW.gK (by assumption) (by omega) | exact isW.g1 (by assumption) | exact isW.g2 (by assumption) | exact isW.g3 (by assumption) | exact isI.gx (isW.i0 (by assumption)) | exact isI.gc (isW.i0 (by assumption)) | exact isI.gx (isW.i1 (by assumption)) | exact isI.gc (isW.i1 (by assumption)) | exact isI.gx (isW.i2 (by assumption)) | exact isI.gc (isW.i2 (by assumption)) | exact isI.gx (isW.i3 (by assumption)) | exact isI.gc (isW.i3 (by assumption)) | exact isI.gx (isW.i4 (by assumption)) | exact isI.gc (isW.i4 (by assumption)) | exact isI.gx (isW.i5 (by assumption)) | exact isI.gc (isW.i5 (by assumption)) | exact isR.gx (by assumption) | exact isRd.gx (by assumption) | exact isSp.gx (by assumption) | exact isI.gx (isR.i (by assumption)) | exact isI.gx (isRd.i (by assumption)) | exact isI.gc (isRd.i (by assumption)) | exact isI.gx (isSp.i (by assumption)) | exact isW.gx (isR.w (by assumption)) | exact isW.gF (isR.w (by assumption)) | fail "no such object") ?_
      refine rj_icmp_lt (pc := 18) (tgt := 25) dX9_thingAt_18 (by decide) (by first | exact b01_r | exact bz_r | omega | (constructor <;> omega) | apply_assumption | (apply atF_r; assumption) | fail "no range") (by first | exact b01_r | exact bz_r | omega | (constructor <;> omega) | apply_assumption | (apply atF_r; assumption) | fail "no range") (fun c_18 => ?_) (fun c_18 => ?_)
      · refine r_aload_n (pc := 25) dX9_thingAt_25 rfl (by first | rfl | exact isRefV_rf _) ?_
        refine r_getf (pc := 26) dX9_thingAt_26 fX9_11 (by first | assumption | exact isI.gx (by assumption) | exact isI.gc (by assumption) | exact isW.gx (by assumption) | exact isW.gF (by assumption) | exact isW.gT (by assumption) (by omega) | exact isW.gS (by assumption) (by omega) | exact isW.gK (by assumption) (by omega) | exact isW.g1 (by assumption) | exact isW.g2 (by assumption) | exact isW.g3 (by assumption) | exact isI.gx (isW.i0 (by assumption)) | exact isI.gc (isW.i0 (by assumption)) | exact isI.gx (isW.i1 (by assumption)) | exact isI.gc (isW.i1 (by assumption)) | exact isI.gx (isW.i2 (by assumption)) | exact isI.gc (isW.i2 (by assumption)) | exact isI.gx (isW.i3 (by assumption)) | exact isI.gc (isW.i3 (by assumption)) | exact isI.gx (isW.i4 (by assumption)) | exact isI.gc (isW.i4 (by assumption)) | exact isI.gx (isW.i5 (by assumption)) | exact isI.gc (isW.i5 (by assumption)) | exact isR.gx (by assumption) | exact isRd.gx (by assumption) | exact isSp.gx (by assumption) | exact isI.gx (isR.i (by assumption)) | exact isI.gx (isRd.i (by assumption)) | exact isI.gc (isRd.i (by assumption)) | exact isI.gx (isSp.i (by assumption)) | exact isW.gx (isR.w (by assumption)) | exact isW.gF (isR.w (by assumption)) | fail "no such object") (by rfl) ?_
        refine r_iload_n (pc := 29) dX9_thingAt_29 rfl ?_
        first | refine rc_aaldT (pc := 30) dX9_thingAt_30 (by assumption) (by first | exact b01_r | exact bz_r | omega | (constructor <;> omega) | apply_assumption | (apply atF_r; assumption) | fail "no range") (by first | exact b01_r | exact bz_r | omega | (constructor <;> omega) | apply_assumption | (apply atF_r; assumption) | fail "no range") (by first | exact b01_r | exact bz_r | omega | (constructor <;> omega) | apply_assumption | (apply atF_r; assumption) | fail "no range") ?_ | refine rc_aaldS (pc := 30) dX9_thingAt_30 (by assumption) (by first | exact b01_r | exact bz_r | omega | (constructor <;> omega) | apply_assumption | (apply atF_r; assumption) | fail "no range") (by first | exact b01_r | exact bz_r | omega | (constructor <;> omega) | apply_assumption | (apply atF_r; assumption) | fail "no range") (by first | exact b01_r | exact bz_r | omega | (constructor <;> omega) | apply_assumption | (apply atF_r; assumption) | fail "no range") ?_ | refine rc_aaldK (pc := 30) dX9_thingAt_30 (by assumption) (by first | exact b01_r | exact bz_r | omega | (constructor <;> omega) | apply_assumption | (apply atF_r; assumption) | fail "no range") (by first | exact b01_r | exact bz_r | omega | (constructor <;> omega) | apply_assumption | (apply atF_r; assumption) | fail "no range") (by first | exact b01_r | exact bz_r | omega | (constructor <;> omega) | apply_assumption | (apply atF_r; assumption) | fail "no range") ?_
        refine r_areturn (pc := 31) _ dX9_thingAt_31 rfl (Or.inl ⟨_, rfl⟩) (by first | rfl | exact isRefV_rf _) ?_
        first
        | exact ⟨by rw [thAt_p (by omega)]; rfl, rfl⟩
        | exact ⟨by rw [thAt_n (by omega)]; rfl, rfl⟩
      · refine r_null (pc := 21) dX9_thingAt_21 ?_
        refine r_goto (pc := 22) (tgt := 31) dX9_thingAt_22 (by decide) ?_
        refine r_areturn (pc := 31) _ dX9_thingAt_31 rfl (Or.inl ⟨_, rfl⟩) (by first | rfl | exact isRefV_rf _) ?_
        first
        | exact ⟨by rw [thAt_p (by omega)]; rfl, rfl⟩
        | exact ⟨by rw [thAt_n (by omega)]; rfl, rfl⟩
set_option maxHeartbeats 4000000 in
set_option maxRecDepth 100000 in
theorem cw_scopeAt {G : mG} {l : Launch} (d : Nat) {h : mH} {w : Nat} {c : Nat → Int} {C : Nat → Nat → Int} {nm : Nat → Int64} {g : Nat → Option Nat} (hW : isW h w c C nm g) (hc : ∀ q, InR (c q)) {i : Int} (hi : InR i) : RUNM G l (d) mX9_scopeAt [.ref w, .int (J i)] h (fun v h' => v = some (va_rf (scAt w c i)) ∧ h' = h) := by
  refine RUNM.of (by decide +kernel) (Nat.le_of_ble_eq_true rfl) ?_
  have r1 := hc 1
  refine r_iload_n (pc := 0) dX9_scopeAt_0 rfl ?_
  refine rj_if_lt (pc := 1) (tgt := 21) dX9_scopeAt_1 (by decide) (by first | exact b01_r | exact bz_r | omega | (constructor <;> omega) | apply_assumption | (apply atF_r; assumption) | fail "no range") (fun c_1 => ?_) (fun c_1 => ?_)
  · refine r_null (pc := 21) dX9_scopeAt_21 ?_
    refine r_goto (pc := 22) (tgt := 31) dX9_scopeAt_22 (by decide) ?_
    refine r_areturn (pc := 31) _ dX9_scopeAt_31 rfl (Or.inl ⟨_, rfl⟩) (by first | rfl | exact isRefV_rf _) ?_
    first
    | exact ⟨by rw [scAt_p (by omega)]; rfl, rfl⟩
    | exact ⟨by rw [scAt_n (by omega)]; rfl, rfl⟩
  · refine r_iload_n (pc := 4) dX9_scopeAt_4 rfl ?_
    refine r_aload_n (pc := 5) dX9_scopeAt_5 rfl (by first | rfl | exact isRefV_rf _) ?_
    refine r_getf (pc := 6) dX9_scopeAt_6 fX9_57 (by first | assumption | exact isI.gx (by assumption) | exact isI.gc (by assumption) | exact isW.gx (by assumption) | exact isW.gF (by assumption) | exact isW.gT (by assumption) (by omega) | exact isW.gS (by assumption) (by omega) | exact isW.gK (by assumption) (by omega) | exact isW.g1 (by assumption) | exact isW.g2 (by assumption) | exact isW.g3 (by assumption) | exact isI.gx (isW.i0 (by assumption)) | exact isI.gc (isW.i0 (by assumption)) | exact isI.gx (isW.i1 (by assumption)) | exact isI.gc (isW.i1 (by assumption)) | exact isI.gx (isW.i2 (by assumption)) | exact isI.gc (isW.i2 (by assumption)) | exact isI.gx (isW.i3 (by assumption)) | exact isI.gc (isW.i3 (by assumption)) | exact isI.gx (isW.i4 (by assumption)) | exact isI.gc (isW.i4 (by assumption)) | exact isI.gx (isW.i5 (by assumption)) | exact isI.gc (isW.i5 (by assumption)) | exact isR.gx (by assumption) | exact isRd.gx (by assumption) | exact isSp.gx (by assumption) | exact isI.gx (isR.i (by assumption)) | exact isI.gx (isRd.i (by assumption)) | exact isI.gc (isRd.i (by assumption)) | exact isI.gx (isSp.i (by assumption)) | exact isW.gx (isR.w (by assumption)) | exact isW.gF (isR.w (by assumption)) | fail "no such object") (by rfl) ?_
    refine rj_icmp_ge (pc := 9) (tgt := 21) dX9_scopeAt_9 (by decide) (by first | exact b01_r | exact bz_r | omega | (constructor <;> omega) | apply_assumption | (apply atF_r; assumption) | fail "no range") (by first | exact b01_r | exact bz_r | omega | (constructor <;> omega) | apply_assumption | (apply atF_r; assumption) | fail "no range") (fun c_9 => ?_) (fun c_9 => ?_)
    · refine r_null (pc := 21) dX9_scopeAt_21 ?_
      refine r_goto (pc := 22) (tgt := 31) dX9_scopeAt_22 (by decide) ?_
      refine r_areturn (pc := 31) _ dX9_scopeAt_31 rfl (Or.inl ⟨_, rfl⟩) (by first | rfl | exact isRefV_rf _) ?_
      first
      | exact ⟨by rw [scAt_p (by omega)]; rfl, rfl⟩
      | exact ⟨by rw [scAt_n (by omega)]; rfl, rfl⟩
    · refine r_iload_n (pc := 12) dX9_scopeAt_12 rfl ?_
      refine r_aload_n (pc := 13) dX9_scopeAt_13 rfl (by first | rfl | exact isRefV_rf _) ?_
      refine r_getf (pc := 14) dX9_scopeAt_14 fX9_19 (by first | assumption | exact isI.gx (by assumption) | exact isI.gc (by assumption) | exact isW.gx (by assumption) | exact isW.gF (by assumption) | exact isW.gT (by assumption) (by omega) | exact isW.gS (by assumption) (by omega) | exact isW.gK (by assumption) (by omega) | exact isW.g1 (by assumption) | exact isW.g2 (by assumption) | exact isW.g3 (by assumption) | exact isI.gx (isW.i0 (by assumption)) | exact isI.gc (isW.i0 (by assumption)) | exact isI.gx (isW.i1 (by assumption)) | exact isI.gc (isW.i1 (by assumption)) | exact isI.gx (isW.i2 (by assumption)) | exact isI.gc (isW.i2 (by assumption)) | exact isI.gx (isW.i3 (by assumption)) | exact isI.gc (isW.i3 (by assumption)) | exact isI.gx (isW.i4 (by assumption)) | exact isI.gc (isW.i4 (by assumption)) | exact isI.gx (isW.i5 (by assumption)) | exact isI.gc (isW.i5 (by assumption)) | exact isR.gx (by assumption) | exact isRd.gx (by assumption) | exact isSp.gx (by assumption) | exact isI.gx (isR.i (by assumption)) | exact isI.gx (isRd.i (by assumption)) | exact isI.gc (isRd.i (by assumption)) | exact isI.gx (isSp.i (by assumption)) | exact isW.gx (isR.w (by assumption)) | exact isW.gF (isR.w (by assumption)) | fail "no such object") (by rfl) ?_
      first | refine rj_alen (pc := 17) dX9_scopeAt_17 (by first | assumption | exact isI.gx (by assumption) | exact isI.gc (by assumption) | exact isW.gx (by assumption) | exact isW.gF (by assumption) | exact isW.gT (by assumption) (by omega) | exact isW.gS (by assumption) (by omega) | exact isW.gK (by assumption) (by omega) | exact isW.g1 (by assumption) | exact isW.g2 (by assumption) | exact isW.g3 (by assumption) | exact isI.gx (isW.i0 (by assumption)) | exact isI.gc (isW.i0 (by assumption)) | exact isI.gx (isW.i1 (by assumption)) | exact isI.gc (isW.i1 (by assumption)) | exact isI.gx (isW.i2 (by assumption)) | exact isI.gc (isW.i2 (by assumption)) | exact isI.gx (isW.i3 (by assumption)) | exact isI.gc (isW.i3 (by assumption)) | exact isI.gx (isW.i4 (by assumption)) | exact isI.gc (isW.i4 (by assumption)) | exact isI.gx (isW.i5 (by assumption)) | exact isI.gc (isW.i5 (by assumption)) | exact isR.gx (by assumption) | exact isRd.gx (by assumption) | exact isSp.gx (by assumption) | exact isI.gx (isR.i (by assumption)) | exact isI.gx (isRd.i (by assumption)) | exact isI.gc (isRd.i (by assumption)) | exact isI.gx (isSp.i (by assumption)) | exact isW.gx (isR.w (by assumption)) | exact isW.gF (isR.w (by assumption)) | fail "no such object") ?_ | refine rj_alenR (pc := 17) dX9_scopeAt_17 (by first | assumption | exact isI.gx (by assumption) | exact isI.gc (by assumption) | exact isW.gx (by assumption) | exact isW.gF (by assumption) | exact isW.gT (by assumption) (by omega) | exact isW.gS (by assumption) (by omega) | exact isW.gK (by assumption) (by omega) | exact isW.g1 (by assumption) | exact isW.g2 (by assumption) | exact isW.g3 (by assumption) | exact isI.gx (isW.i0 (by assumption)) | exact isI.gc (isW.i0 (by assumption)) | exact isI.gx (isW.i1 (by assumption)) | exact isI.gc (isW.i1 (by assumption)) | exact isI.gx (isW.i2 (by assumption)) | exact isI.gc (isW.i2 (by assumption)) | exact isI.gx (isW.i3 (by assumption)) | exact isI.gc (isW.i3 (by assumption)) | exact isI.gx (isW.i4 (by assumption)) | exact isI.gc (isW.i4 (by assumption)) | exact isI.gx (isW.i5 (by assumption)) | exact isI.gc (isW.i5 (by assumption)) | exact isR.gx (by assumption) | exact isRd.gx (by assumption) | exact isSp.gx (by assumption) | exact isI.gx (isR.i (by assumption)) | exact isI.gx (isRd.i (by assumption)) | exact isI.gc (isRd.i (by assumption)) | exact isI.gx (isSp.i (by assumption)) | exact isW.gx (isR.w (by assumption)) | exact isW.gF (isR.w (by assumption)) | fail "no such object") ?_
      refine rj_icmp_lt (pc := 18) (tgt := 25) dX9_scopeAt_18 (by decide) (by first | exact b01_r | exact bz_r | omega | (constructor <;> omega) | apply_assumption | (apply atF_r; assumption) | fail "no range") (by first | exact b01_r | exact bz_r | omega | (constructor <;> omega) | apply_assumption | (apply atF_r; assumption) | fail "no range") (fun c_18 => ?_) (fun c_18 => ?_)
      · refine r_aload_n (pc := 25) dX9_scopeAt_25 rfl (by first | rfl | exact isRefV_rf _) ?_
        refine r_getf (pc := 26) dX9_scopeAt_26 fX9_19 (by first | assumption | exact isI.gx (by assumption) | exact isI.gc (by assumption) | exact isW.gx (by assumption) | exact isW.gF (by assumption) | exact isW.gT (by assumption) (by omega) | exact isW.gS (by assumption) (by omega) | exact isW.gK (by assumption) (by omega) | exact isW.g1 (by assumption) | exact isW.g2 (by assumption) | exact isW.g3 (by assumption) | exact isI.gx (isW.i0 (by assumption)) | exact isI.gc (isW.i0 (by assumption)) | exact isI.gx (isW.i1 (by assumption)) | exact isI.gc (isW.i1 (by assumption)) | exact isI.gx (isW.i2 (by assumption)) | exact isI.gc (isW.i2 (by assumption)) | exact isI.gx (isW.i3 (by assumption)) | exact isI.gc (isW.i3 (by assumption)) | exact isI.gx (isW.i4 (by assumption)) | exact isI.gc (isW.i4 (by assumption)) | exact isI.gx (isW.i5 (by assumption)) | exact isI.gc (isW.i5 (by assumption)) | exact isR.gx (by assumption) | exact isRd.gx (by assumption) | exact isSp.gx (by assumption) | exact isI.gx (isR.i (by assumption)) | exact isI.gx (isRd.i (by assumption)) | exact isI.gc (isRd.i (by assumption)) | exact isI.gx (isSp.i (by assumption)) | exact isW.gx (isR.w (by assumption)) | exact isW.gF (isR.w (by assumption)) | fail "no such object") (by rfl) ?_
        refine r_iload_n (pc := 29) dX9_scopeAt_29 rfl ?_
        first | refine rc_aaldT (pc := 30) dX9_scopeAt_30 (by assumption) (by first | exact b01_r | exact bz_r | omega | (constructor <;> omega) | apply_assumption | (apply atF_r; assumption) | fail "no range") (by first | exact b01_r | exact bz_r | omega | (constructor <;> omega) | apply_assumption | (apply atF_r; assumption) | fail "no range") (by first | exact b01_r | exact bz_r | omega | (constructor <;> omega) | apply_assumption | (apply atF_r; assumption) | fail "no range") ?_ | refine rc_aaldS (pc := 30) dX9_scopeAt_30 (by assumption) (by first | exact b01_r | exact bz_r | omega | (constructor <;> omega) | apply_assumption | (apply atF_r; assumption) | fail "no range") (by first | exact b01_r | exact bz_r | omega | (constructor <;> omega) | apply_assumption | (apply atF_r; assumption) | fail "no range") (by first | exact b01_r | exact bz_r | omega | (constructor <;> omega) | apply_assumption | (apply atF_r; assumption) | fail "no range") ?_ | refine rc_aaldK (pc := 30) dX9_scopeAt_30 (by assumption) (by first | exact b01_r | exact bz_r | omega | (constructor <;> omega) | apply_assumption | (apply atF_r; assumption) | fail "no range") (by first | exact b01_r | exact bz_r | omega | (constructor <;> omega) | apply_assumption | (apply atF_r; assumption) | fail "no range") (by first | exact b01_r | exact bz_r | omega | (constructor <;> omega) | apply_assumption | (apply atF_r; assumption) | fail "no range") ?_
        refine r_areturn (pc := 31) _ dX9_scopeAt_31 rfl (Or.inl ⟨_, rfl⟩) (by first | rfl | exact isRefV_rf _) ?_
        first
        | exact ⟨by rw [scAt_p (by omega)]; rfl, rfl⟩
        | exact ⟨by rw [scAt_n (by omega)]; rfl, rfl⟩
      · refine r_null (pc := 21) dX9_scopeAt_21 ?_
        refine r_goto (pc := 22) (tgt := 31) dX9_scopeAt_22 (by decide) ?_
        refine r_areturn (pc := 31) _ dX9_scopeAt_31 rfl (Or.inl ⟨_, rfl⟩) (by first | rfl | exact isRefV_rf _) ?_
        first
        | exact ⟨by rw [scAt_p (by omega)]; rfl, rfl⟩
        | exact ⟨by rw [scAt_n (by omega)]; rfl, rfl⟩
set_option maxHeartbeats 4000000 in
set_option maxRecDepth 100000 in
theorem cw_taskAt {G : mG} {l : Launch} (d : Nat) {h : mH} {w : Nat} {c : Nat → Int} {C : Nat → Nat → Int} {nm : Nat → Int64} {g : Nat → Option Nat} (hW : isW h w c C nm g) (hc : ∀ q, InR (c q)) {i : Int} (hi : InR i) : RUNM G l (d) mX9_taskAt [.ref w, .int (J i)] h (fun v h' => v = some (va_rf (tkAt w c i)) ∧ h' = h) := by
  refine RUNM.of (by decide +kernel) (Nat.le_of_ble_eq_true rfl) ?_
  have r2 := hc 2
  refine r_iload_n (pc := 0) dX9_taskAt_0 rfl ?_
  refine rj_if_lt (pc := 1) (tgt := 21) dX9_taskAt_1 (by decide) (by first | exact b01_r | exact bz_r | omega | (constructor <;> omega) | apply_assumption | (apply atF_r; assumption) | fail "no range") (fun c_1 => ?_) (fun c_1 => ?_)
  · refine r_null (pc := 21) dX9_taskAt_21 ?_
    refine r_goto (pc := 22) (tgt := 31) dX9_taskAt_22 (by decide) ?_
    refine r_areturn (pc := 31) _ dX9_taskAt_31 rfl (Or.inl ⟨_, rfl⟩) (by first | rfl | exact isRefV_rf _) ?_
    first
    | exact ⟨by rw [tkAt_p (by omega)]; rfl, rfl⟩
    | exact ⟨by rw [tkAt_n (by omega)]; rfl, rfl⟩
  · refine r_iload_n (pc := 4) dX9_taskAt_4 rfl ?_
    refine r_aload_n (pc := 5) dX9_taskAt_5 rfl (by first | rfl | exact isRefV_rf _) ?_
    refine r_getf (pc := 6) dX9_taskAt_6 fX9_81 (by first | assumption | exact isI.gx (by assumption) | exact isI.gc (by assumption) | exact isW.gx (by assumption) | exact isW.gF (by assumption) | exact isW.gT (by assumption) (by omega) | exact isW.gS (by assumption) (by omega) | exact isW.gK (by assumption) (by omega) | exact isW.g1 (by assumption) | exact isW.g2 (by assumption) | exact isW.g3 (by assumption) | exact isI.gx (isW.i0 (by assumption)) | exact isI.gc (isW.i0 (by assumption)) | exact isI.gx (isW.i1 (by assumption)) | exact isI.gc (isW.i1 (by assumption)) | exact isI.gx (isW.i2 (by assumption)) | exact isI.gc (isW.i2 (by assumption)) | exact isI.gx (isW.i3 (by assumption)) | exact isI.gc (isW.i3 (by assumption)) | exact isI.gx (isW.i4 (by assumption)) | exact isI.gc (isW.i4 (by assumption)) | exact isI.gx (isW.i5 (by assumption)) | exact isI.gc (isW.i5 (by assumption)) | exact isR.gx (by assumption) | exact isRd.gx (by assumption) | exact isSp.gx (by assumption) | exact isI.gx (isR.i (by assumption)) | exact isI.gx (isRd.i (by assumption)) | exact isI.gc (isRd.i (by assumption)) | exact isI.gx (isSp.i (by assumption)) | exact isW.gx (isR.w (by assumption)) | exact isW.gF (isR.w (by assumption)) | fail "no such object") (by rfl) ?_
    refine rj_icmp_ge (pc := 9) (tgt := 21) dX9_taskAt_9 (by decide) (by first | exact b01_r | exact bz_r | omega | (constructor <;> omega) | apply_assumption | (apply atF_r; assumption) | fail "no range") (by first | exact b01_r | exact bz_r | omega | (constructor <;> omega) | apply_assumption | (apply atF_r; assumption) | fail "no range") (fun c_9 => ?_) (fun c_9 => ?_)
    · refine r_null (pc := 21) dX9_taskAt_21 ?_
      refine r_goto (pc := 22) (tgt := 31) dX9_taskAt_22 (by decide) ?_
      refine r_areturn (pc := 31) _ dX9_taskAt_31 rfl (Or.inl ⟨_, rfl⟩) (by first | rfl | exact isRefV_rf _) ?_
      first
      | exact ⟨by rw [tkAt_p (by omega)]; rfl, rfl⟩
      | exact ⟨by rw [tkAt_n (by omega)]; rfl, rfl⟩
    · refine r_iload_n (pc := 12) dX9_taskAt_12 rfl ?_
      refine r_aload_n (pc := 13) dX9_taskAt_13 rfl (by first | rfl | exact isRefV_rf _) ?_
      refine r_getf (pc := 14) dX9_taskAt_14 fX9_25 (by first | assumption | exact isI.gx (by assumption) | exact isI.gc (by assumption) | exact isW.gx (by assumption) | exact isW.gF (by assumption) | exact isW.gT (by assumption) (by omega) | exact isW.gS (by assumption) (by omega) | exact isW.gK (by assumption) (by omega) | exact isW.g1 (by assumption) | exact isW.g2 (by assumption) | exact isW.g3 (by assumption) | exact isI.gx (isW.i0 (by assumption)) | exact isI.gc (isW.i0 (by assumption)) | exact isI.gx (isW.i1 (by assumption)) | exact isI.gc (isW.i1 (by assumption)) | exact isI.gx (isW.i2 (by assumption)) | exact isI.gc (isW.i2 (by assumption)) | exact isI.gx (isW.i3 (by assumption)) | exact isI.gc (isW.i3 (by assumption)) | exact isI.gx (isW.i4 (by assumption)) | exact isI.gc (isW.i4 (by assumption)) | exact isI.gx (isW.i5 (by assumption)) | exact isI.gc (isW.i5 (by assumption)) | exact isR.gx (by assumption) | exact isRd.gx (by assumption) | exact isSp.gx (by assumption) | exact isI.gx (isR.i (by assumption)) | exact isI.gx (isRd.i (by assumption)) | exact isI.gc (isRd.i (by assumption)) | exact isI.gx (isSp.i (by assumption)) | exact isW.gx (isR.w (by assumption)) | exact isW.gF (isR.w (by assumption)) | fail "no such object") (by rfl) ?_
      first | refine rj_alen (pc := 17) dX9_taskAt_17 (by first | assumption | exact isI.gx (by assumption) | exact isI.gc (by assumption) | exact isW.gx (by assumption) | exact isW.gF (by assumption) | exact isW.gT (by assumption) (by omega) | exact isW.gS (by assumption) (by omega) | exact isW.gK (by assumption) (by omega) | exact isW.g1 (by assumption) | exact isW.g2 (by assumption) | exact isW.g3 (by assumption) | exact isI.gx (isW.i0 (by assumption)) | exact isI.gc (isW.i0 (by assumption)) | exact isI.gx (isW.i1 (by assumption)) | exact isI.gc (isW.i1 (by assumption)) | exact isI.gx (isW.i2 (by assumption)) | exact isI.gc (isW.i2 (by assumption)) | exact isI.gx (isW.i3 (by assumption)) | exact isI.gc (isW.i3 (by assumption)) | exact isI.gx (isW.i4 (by assumption)) | exact isI.gc (isW.i4 (by assumption)) | exact isI.gx (isW.i5 (by assumption)) | exact isI.gc (isW.i5 (by assumption)) | exact isR.gx (by assumption) | exact isRd.gx (by assumption) | exact isSp.gx (by assumption) | exact isI.gx (isR.i (by assumption)) | exact isI.gx (isRd.i (by assumption)) | exact isI.gc (isRd.i (by assumption)) | exact isI.gx (isSp.i (by assumption)) | exact isW.gx (isR.w (by assumption)) | exact isW.gF (isR.w (by assumption)) | fail "no such object") ?_ | refine rj_alenR (pc := 17) dX9_taskAt_17 (by first | assumption | exact isI.gx (by assumption) | exact isI.gc (by assumption) | exact isW.gx (by assumption) | exact isW.gF (by assumption) | exact isW.gT (by assumption) (by omega) | exact isW.gS (by assumption) (by omega) | exact isW.gK (by assumption) (by omega) | exact isW.g1 (by assumption) | exact isW.g2 (by assumption) | exact isW.g3 (by assumption) | exact isI.gx (isW.i0 (by assumption)) | exact isI.gc (isW.i0 (by assumption)) | exact isI.gx (isW.i1 (by assumption)) | exact isI.gc (isW.i1 (by assumption)) | exact isI.gx (isW.i2 (by assumption)) | exact isI.gc (isW.i2 (by assumption)) | exact isI.gx (isW.i3 (by assumption)) | exact isI.gc (isW.i3 (by assumption)) | exact isI.gx (isW.i4 (by assumption)) | exact isI.gc (isW.i4 (by assumption)) | exact isI.gx (isW.i5 (by assumption)) | exact isI.gc (isW.i5 (by assumption)) | exact isR.gx (by assumption) | exact isRd.gx (by assumption) | exact isSp.gx (by assumption) | exact isI.gx (isR.i (by assumption)) | exact isI.gx (isRd.i (by assumption)) | exact isI.gc (isRd.i (by assumption)) | exact isI.gx (isSp.i (by assumption)) | exact isW.gx (isR.w (by assumption)) | exact isW.gF (isR.w (by assumption)) | fail "no such object") ?_
      refine rj_icmp_lt (pc := 18) (tgt := 25) dX9_taskAt_18 (by decide) (by first | exact b01_r | exact bz_r | omega | (constructor <;> omega) | apply_assumption | (apply atF_r; assumption) | fail "no range") (by first | exact b01_r | exact bz_r | omega | (constructor <;> omega) | apply_assumption | (apply atF_r; assumption) | fail "no range") (fun c_18 => ?_) (fun c_18 => ?_)
      · refine r_aload_n (pc := 25) dX9_taskAt_25 rfl (by first | rfl | exact isRefV_rf _) ?_
        refine r_getf (pc := 26) dX9_taskAt_26 fX9_25 (by first | assumption | exact isI.gx (by assumption) | exact isI.gc (by assumption) | exact isW.gx (by assumption) | exact isW.gF (by assumption) | exact isW.gT (by assumption) (by omega) | exact isW.gS (by assumption) (by omega) | exact isW.gK (by assumption) (by omega) | exact isW.g1 (by assumption) | exact isW.g2 (by assumption) | exact isW.g3 (by assumption) | exact isI.gx (isW.i0 (by assumption)) | exact isI.gc (isW.i0 (by assumption)) | exact isI.gx (isW.i1 (by assumption)) | exact isI.gc (isW.i1 (by assumption)) | exact isI.gx (isW.i2 (by assumption)) | exact isI.gc (isW.i2 (by assumption)) | exact isI.gx (isW.i3 (by assumption)) | exact isI.gc (isW.i3 (by assumption)) | exact isI.gx (isW.i4 (by assumption)) | exact isI.gc (isW.i4 (by assumption)) | exact isI.gx (isW.i5 (by assumption)) | exact isI.gc (isW.i5 (by assumption)) | exact isR.gx (by assumption) | exact isRd.gx (by assumption) | exact isSp.gx (by assumption) | exact isI.gx (isR.i (by assumption)) | exact isI.gx (isRd.i (by assumption)) | exact isI.gc (isRd.i (by assumption)) | exact isI.gx (isSp.i (by assumption)) | exact isW.gx (isR.w (by assumption)) | exact isW.gF (isR.w (by assumption)) | fail "no such object") (by rfl) ?_
        refine r_iload_n (pc := 29) dX9_taskAt_29 rfl ?_
        first | refine rc_aaldT (pc := 30) dX9_taskAt_30 (by assumption) (by first | exact b01_r | exact bz_r | omega | (constructor <;> omega) | apply_assumption | (apply atF_r; assumption) | fail "no range") (by first | exact b01_r | exact bz_r | omega | (constructor <;> omega) | apply_assumption | (apply atF_r; assumption) | fail "no range") (by first | exact b01_r | exact bz_r | omega | (constructor <;> omega) | apply_assumption | (apply atF_r; assumption) | fail "no range") ?_ | refine rc_aaldS (pc := 30) dX9_taskAt_30 (by assumption) (by first | exact b01_r | exact bz_r | omega | (constructor <;> omega) | apply_assumption | (apply atF_r; assumption) | fail "no range") (by first | exact b01_r | exact bz_r | omega | (constructor <;> omega) | apply_assumption | (apply atF_r; assumption) | fail "no range") (by first | exact b01_r | exact bz_r | omega | (constructor <;> omega) | apply_assumption | (apply atF_r; assumption) | fail "no range") ?_ | refine rc_aaldK (pc := 30) dX9_taskAt_30 (by assumption) (by first | exact b01_r | exact bz_r | omega | (constructor <;> omega) | apply_assumption | (apply atF_r; assumption) | fail "no range") (by first | exact b01_r | exact bz_r | omega | (constructor <;> omega) | apply_assumption | (apply atF_r; assumption) | fail "no range") (by first | exact b01_r | exact bz_r | omega | (constructor <;> omega) | apply_assumption | (apply atF_r; assumption) | fail "no range") ?_
        refine r_areturn (pc := 31) _ dX9_taskAt_31 rfl (Or.inl ⟨_, rfl⟩) (by first | rfl | exact isRefV_rf _) ?_
        first
        | exact ⟨by rw [tkAt_p (by omega)]; rfl, rfl⟩
        | exact ⟨by rw [tkAt_n (by omega)]; rfl, rfl⟩
      · refine r_null (pc := 21) dX9_taskAt_21 ?_
        refine r_goto (pc := 22) (tgt := 31) dX9_taskAt_22 (by decide) ?_
        refine r_areturn (pc := 31) _ dX9_taskAt_31 rfl (Or.inl ⟨_, rfl⟩) (by first | rfl | exact isRefV_rf _) ?_
        first
        | exact ⟨by rw [tkAt_p (by omega)]; rfl, rfl⟩
        | exact ⟨by rw [tkAt_n (by omega)]; rfl, rfl⟩
set_option maxHeartbeats 4000000 in
set_option maxRecDepth 100000 in
theorem cw_isHeld {G : mG} {l : Launch} (d : Nat) {h : mH} {w : Nat} {c : Nat → Int} {C : Nat → Nat → Int} {nm : Nat → Int64} {g : Nat → Option Nat} (hW : isW h w c C nm g) (hc : ∀ q, InR (c q)) {i : Int} (hi : InR i) : RUNM G l (d + 1) mX9_isHeld [.ref w, .int (J i)] h (fun v h' => v = some (.int (J (b01 (inW c 0 90 i ∧ c (32 + 3 * i.toNat) = 0)))) ∧ h' = h) := by
  refine RUNM.of (by decide +kernel) (Nat.le_of_ble_eq_true rfl) ?_
  have r0 := hc 0
  refine r_aload_n (pc := 0) dX9_isHeld_0 rfl (by first | rfl | exact isRefV_rf _) ?_
  refine r_iload_n (pc := 1) dX9_isHeld_1 rfl ?_
  refine r_callV1 (pc := 2) dX9_isHeld_2 qX9_thingAt kX9_96 vX9_thingAt (by first | assumption | exact isI.gx (by assumption) | exact isI.gc (by assumption) | exact isW.gx (by assumption) | exact isW.gF (by assumption) | exact isW.gT (by assumption) (by omega) | exact isW.gS (by assumption) (by omega) | exact isW.gK (by assumption) (by omega) | exact isW.g1 (by assumption) | exact isW.g2 (by assumption) | exact isW.g3 (by assumption) | exact isI.gx (isW.i0 (by assumption)) | exact isI.gc (isW.i0 (by assumption)) | exact isI.gx (isW.i1 (by assumption)) | exact isI.gc (isW.i1 (by assumption)) | exact isI.gx (isW.i2 (by assumption)) | exact isI.gc (isW.i2 (by assumption)) | exact isI.gx (isW.i3 (by assumption)) | exact isI.gc (isW.i3 (by assumption)) | exact isI.gx (isW.i4 (by assumption)) | exact isI.gc (isW.i4 (by assumption)) | exact isI.gx (isW.i5 (by assumption)) | exact isI.gc (isW.i5 (by assumption)) | exact isR.gx (by assumption) | exact isRd.gx (by assumption) | exact isSp.gx (by assumption) | exact isI.gx (isR.i (by assumption)) | exact isI.gx (isRd.i (by assumption)) | exact isI.gc (isRd.i (by assumption)) | exact isI.gx (isSp.i (by assumption)) | exact isW.gx (isR.w (by assumption)) | exact isW.gF (isR.w (by assumption)) | fail "no such object") rfl rfl (Nat.le_of_ble_eq_true rfl) (cw_thingAt _ hW hc hi) (fun v_2 h_2 q_2 => ?_)
  obtain ⟨q1_2, rfl⟩ := q_2
  by_cases e_2 : inW c 0 90 i
  · obtain rfl := thAt_P e_2 q1_2
    refine r_astore_n (pc := 5) dX9_isHeld_5 (Nat.le_of_ble_eq_true rfl) (by first | rfl | exact isRefV_rf _) ?_
    dsimp only [lsSt, List.set, mLs, mEnt]
    refine r_aload_n (pc := 6) dX9_isHeld_6 rfl (by first | rfl | exact isRefV_rf _) ?_
    refine r_ifnull (pc := 7) (tgt := 21) dX9_isHeld_7 (by decide) (by first | rfl | exact isRefV_rf _) (fun c_7 => by cases c_7) (fun a_7 c_7 => ?_)
    refine r_aload_n (pc := 10) dX9_isHeld_10 rfl (by first | rfl | exact isRefV_rf _) ?_
    refine r_getf (pc := 11) dX9_isHeld_11 fX9_114 (by first | assumption | exact isI.gx (by assumption) | exact isI.gc (by assumption) | exact isW.gx (by assumption) | exact isW.gF (by assumption) | exact isW.gT (by assumption) (by omega) | exact isW.gS (by assumption) (by omega) | exact isW.gK (by assumption) (by omega) | exact isW.g1 (by assumption) | exact isW.g2 (by assumption) | exact isW.g3 (by assumption) | exact isI.gx (isW.i0 (by assumption)) | exact isI.gc (isW.i0 (by assumption)) | exact isI.gx (isW.i1 (by assumption)) | exact isI.gc (isW.i1 (by assumption)) | exact isI.gx (isW.i2 (by assumption)) | exact isI.gc (isW.i2 (by assumption)) | exact isI.gx (isW.i3 (by assumption)) | exact isI.gc (isW.i3 (by assumption)) | exact isI.gx (isW.i4 (by assumption)) | exact isI.gc (isW.i4 (by assumption)) | exact isI.gx (isW.i5 (by assumption)) | exact isI.gc (isW.i5 (by assumption)) | exact isR.gx (by assumption) | exact isRd.gx (by assumption) | exact isSp.gx (by assumption) | exact isI.gx (isR.i (by assumption)) | exact isI.gx (isRd.i (by assumption)) | exact isI.gc (isRd.i (by assumption)) | exact isI.gx (isSp.i (by assumption)) | exact isW.gx (isR.w (by assumption)) | exact isW.gF (isR.w (by assumption)) | fail "no such object") (by rfl) ?_
    refine rj_if_ne (pc := 14) (tgt := 21) dX9_isHeld_14 (by decide) (by first | exact b01_r | exact bz_r | omega | (constructor <;> omega) | apply_assumption | (apply atF_r; assumption) | fail "no range") (fun c_14 => ?_) (fun c_14 => ?_)
    · try simp only [b01_0, bz_0, Classical.not_not] at c_14
      refine rj_iconst (pc := 21) dX9_isHeld_21 ?_
      refine r_ireturn (pc := 22) .boolean dX9_isHeld_22 rfl (by first | exact nar_J0 | exact nar_J1 | exact nar_b01 | exact nar_bz) ?_
      first
      | exact ⟨rfl, rfl⟩
      | exact ⟨vf (by omega), rfl⟩
      | exact ⟨vt (by omega), rfl⟩
    · try simp only [b01_0, bz_0, Classical.not_not] at c_14
      refine rj_iconst (pc := 17) dX9_isHeld_17 ?_
      refine r_goto (pc := 18) (tgt := 22) dX9_isHeld_18 (by decide) ?_
      refine r_ireturn (pc := 22) .boolean dX9_isHeld_22 rfl (by first | exact nar_J0 | exact nar_J1 | exact nar_b01 | exact nar_bz) ?_
      first
      | exact ⟨rfl, rfl⟩
      | exact ⟨vf (by omega), rfl⟩
      | exact ⟨vt (by omega), rfl⟩
  · obtain rfl := thAt_N e_2 q1_2
    refine r_astore_n (pc := 5) dX9_isHeld_5 (Nat.le_of_ble_eq_true rfl) (by first | rfl | exact isRefV_rf _) ?_
    dsimp only [lsSt, List.set, mLs, mEnt]
    refine r_aload_n (pc := 6) dX9_isHeld_6 rfl (by first | rfl | exact isRefV_rf _) ?_
    refine r_ifnull (pc := 7) (tgt := 21) dX9_isHeld_7 (by decide) (by first | rfl | exact isRefV_rf _) (fun c_7 => ?_) (fun a_7 c_7 => by cases c_7)
    refine rj_iconst (pc := 21) dX9_isHeld_21 ?_
    refine r_ireturn (pc := 22) .boolean dX9_isHeld_22 rfl (by first | exact nar_J0 | exact nar_J1 | exact nar_b01 | exact nar_bz) ?_
    first
    | exact ⟨rfl, rfl⟩
    | exact ⟨vf (by omega), rfl⟩
    | exact ⟨vt (by omega), rfl⟩
set_option maxHeartbeats 4000000 in
set_option maxRecDepth 100000 in
theorem cw_isOpen {G : mG} {l : Launch} (d : Nat) {h : mH} {w : Nat} {c : Nat → Int} {C : Nat → Nat → Int} {nm : Nat → Int64} {g : Nat → Option Nat} (hW : isW h w c C nm g) (hc : ∀ q, InR (c q)) {i : Int} (hi : InR i) : RUNM G l (d + 1) mX9_isOpen [.ref w, .int (J i)] h (fun v h' => v = some (.int (J (b01 (inW c 1 60 i ∧ c (304 + 3 * i.toNat) = 0)))) ∧ h' = h) := by
  refine RUNM.of (by decide +kernel) (Nat.le_of_ble_eq_true rfl) ?_
  have r1 := hc 1
  refine r_aload_n (pc := 0) dX9_isOpen_0 rfl (by first | rfl | exact isRefV_rf _) ?_
  refine r_iload_n (pc := 1) dX9_isOpen_1 rfl ?_
  refine r_callV1 (pc := 2) dX9_isOpen_2 qX9_scopeAt kX9_61 vX9_scopeAt (by first | assumption | exact isI.gx (by assumption) | exact isI.gc (by assumption) | exact isW.gx (by assumption) | exact isW.gF (by assumption) | exact isW.gT (by assumption) (by omega) | exact isW.gS (by assumption) (by omega) | exact isW.gK (by assumption) (by omega) | exact isW.g1 (by assumption) | exact isW.g2 (by assumption) | exact isW.g3 (by assumption) | exact isI.gx (isW.i0 (by assumption)) | exact isI.gc (isW.i0 (by assumption)) | exact isI.gx (isW.i1 (by assumption)) | exact isI.gc (isW.i1 (by assumption)) | exact isI.gx (isW.i2 (by assumption)) | exact isI.gc (isW.i2 (by assumption)) | exact isI.gx (isW.i3 (by assumption)) | exact isI.gc (isW.i3 (by assumption)) | exact isI.gx (isW.i4 (by assumption)) | exact isI.gc (isW.i4 (by assumption)) | exact isI.gx (isW.i5 (by assumption)) | exact isI.gc (isW.i5 (by assumption)) | exact isR.gx (by assumption) | exact isRd.gx (by assumption) | exact isSp.gx (by assumption) | exact isI.gx (isR.i (by assumption)) | exact isI.gx (isRd.i (by assumption)) | exact isI.gc (isRd.i (by assumption)) | exact isI.gx (isSp.i (by assumption)) | exact isW.gx (isR.w (by assumption)) | exact isW.gF (isR.w (by assumption)) | fail "no such object") rfl rfl (Nat.le_of_ble_eq_true rfl) (cw_scopeAt _ hW hc hi) (fun v_2 h_2 q_2 => ?_)
  obtain ⟨q1_2, rfl⟩ := q_2
  by_cases e_2 : inW c 1 60 i
  · obtain rfl := scAt_P e_2 q1_2
    refine r_astore_n (pc := 5) dX9_isOpen_5 (Nat.le_of_ble_eq_true rfl) (by first | rfl | exact isRefV_rf _) ?_
    dsimp only [lsSt, List.set, mLs, mEnt]
    refine r_aload_n (pc := 6) dX9_isOpen_6 rfl (by first | rfl | exact isRefV_rf _) ?_
    refine r_ifnull (pc := 7) (tgt := 21) dX9_isOpen_7 (by decide) (by first | rfl | exact isRefV_rf _) (fun c_7 => by cases c_7) (fun a_7 c_7 => ?_)
    refine r_aload_n (pc := 10) dX9_isOpen_10 rfl (by first | rfl | exact isRefV_rf _) ?_
    refine r_getf (pc := 11) dX9_isOpen_11 fX9_127 (by first | assumption | exact isI.gx (by assumption) | exact isI.gc (by assumption) | exact isW.gx (by assumption) | exact isW.gF (by assumption) | exact isW.gT (by assumption) (by omega) | exact isW.gS (by assumption) (by omega) | exact isW.gK (by assumption) (by omega) | exact isW.g1 (by assumption) | exact isW.g2 (by assumption) | exact isW.g3 (by assumption) | exact isI.gx (isW.i0 (by assumption)) | exact isI.gc (isW.i0 (by assumption)) | exact isI.gx (isW.i1 (by assumption)) | exact isI.gc (isW.i1 (by assumption)) | exact isI.gx (isW.i2 (by assumption)) | exact isI.gc (isW.i2 (by assumption)) | exact isI.gx (isW.i3 (by assumption)) | exact isI.gc (isW.i3 (by assumption)) | exact isI.gx (isW.i4 (by assumption)) | exact isI.gc (isW.i4 (by assumption)) | exact isI.gx (isW.i5 (by assumption)) | exact isI.gc (isW.i5 (by assumption)) | exact isR.gx (by assumption) | exact isRd.gx (by assumption) | exact isSp.gx (by assumption) | exact isI.gx (isR.i (by assumption)) | exact isI.gx (isRd.i (by assumption)) | exact isI.gc (isRd.i (by assumption)) | exact isI.gx (isSp.i (by assumption)) | exact isW.gx (isR.w (by assumption)) | exact isW.gF (isR.w (by assumption)) | fail "no such object") (by rfl) ?_
    refine rj_if_ne (pc := 14) (tgt := 21) dX9_isOpen_14 (by decide) (by first | exact b01_r | exact bz_r | omega | (constructor <;> omega) | apply_assumption | (apply atF_r; assumption) | fail "no range") (fun c_14 => ?_) (fun c_14 => ?_)
    · try simp only [b01_0, bz_0, Classical.not_not] at c_14
      refine rj_iconst (pc := 21) dX9_isOpen_21 ?_
      refine r_ireturn (pc := 22) .boolean dX9_isOpen_22 rfl (by first | exact nar_J0 | exact nar_J1 | exact nar_b01 | exact nar_bz) ?_
      first
      | exact ⟨rfl, rfl⟩
      | exact ⟨vf (by omega), rfl⟩
      | exact ⟨vt (by omega), rfl⟩
    · try simp only [b01_0, bz_0, Classical.not_not] at c_14
      refine rj_iconst (pc := 17) dX9_isOpen_17 ?_
      refine r_goto (pc := 18) (tgt := 22) dX9_isOpen_18 (by decide) ?_
      refine r_ireturn (pc := 22) .boolean dX9_isOpen_22 rfl (by first | exact nar_J0 | exact nar_J1 | exact nar_b01 | exact nar_bz) ?_
      first
      | exact ⟨rfl, rfl⟩
      | exact ⟨vf (by omega), rfl⟩
      | exact ⟨vt (by omega), rfl⟩
  · obtain rfl := scAt_N e_2 q1_2
    refine r_astore_n (pc := 5) dX9_isOpen_5 (Nat.le_of_ble_eq_true rfl) (by first | rfl | exact isRefV_rf _) ?_
    dsimp only [lsSt, List.set, mLs, mEnt]
    refine r_aload_n (pc := 6) dX9_isOpen_6 rfl (by first | rfl | exact isRefV_rf _) ?_
    refine r_ifnull (pc := 7) (tgt := 21) dX9_isOpen_7 (by decide) (by first | rfl | exact isRefV_rf _) (fun c_7 => ?_) (fun a_7 c_7 => by cases c_7)
    refine rj_iconst (pc := 21) dX9_isOpen_21 ?_
    refine r_ireturn (pc := 22) .boolean dX9_isOpen_22 rfl (by first | exact nar_J0 | exact nar_J1 | exact nar_b01 | exact nar_bz) ?_
    first
    | exact ⟨rfl, rfl⟩
    | exact ⟨vf (by omega), rfl⟩
    | exact ⟨vt (by omega), rfl⟩
set_option maxHeartbeats 4000000 in
set_option maxRecDepth 100000 in
theorem cw_isReady {G : mG} {l : Launch} (d : Nat) {h : mH} {w : Nat} {c : Nat → Int} {C : Nat → Nat → Int} {nm : Nat → Int64} {g : Nat → Option Nat} (hW : isW h w c C nm g) (hc : ∀ q, InR (c q)) {i : Int} (hi : InR i) : RUNM G l (d + 1) mX9_isReady [.ref w, .int (J i)] h (fun v h' => v = some (.int (J (b01 (inW c 2 10 i ∧ c (489 + 9 * i.toNat) = 0)))) ∧ h' = h) := by
  refine RUNM.of (by decide +kernel) (Nat.le_of_ble_eq_true rfl) ?_
  have r2 := hc 2
  refine r_aload_n (pc := 0) dX9_isReady_0 rfl (by first | rfl | exact isRefV_rf _) ?_
  refine r_iload_n (pc := 1) dX9_isReady_1 rfl ?_
  refine r_callV1 (pc := 2) dX9_isReady_2 qX9_taskAt kX9_128 vX9_taskAt (by first | assumption | exact isI.gx (by assumption) | exact isI.gc (by assumption) | exact isW.gx (by assumption) | exact isW.gF (by assumption) | exact isW.gT (by assumption) (by omega) | exact isW.gS (by assumption) (by omega) | exact isW.gK (by assumption) (by omega) | exact isW.g1 (by assumption) | exact isW.g2 (by assumption) | exact isW.g3 (by assumption) | exact isI.gx (isW.i0 (by assumption)) | exact isI.gc (isW.i0 (by assumption)) | exact isI.gx (isW.i1 (by assumption)) | exact isI.gc (isW.i1 (by assumption)) | exact isI.gx (isW.i2 (by assumption)) | exact isI.gc (isW.i2 (by assumption)) | exact isI.gx (isW.i3 (by assumption)) | exact isI.gc (isW.i3 (by assumption)) | exact isI.gx (isW.i4 (by assumption)) | exact isI.gc (isW.i4 (by assumption)) | exact isI.gx (isW.i5 (by assumption)) | exact isI.gc (isW.i5 (by assumption)) | exact isR.gx (by assumption) | exact isRd.gx (by assumption) | exact isSp.gx (by assumption) | exact isI.gx (isR.i (by assumption)) | exact isI.gx (isRd.i (by assumption)) | exact isI.gc (isRd.i (by assumption)) | exact isI.gx (isSp.i (by assumption)) | exact isW.gx (isR.w (by assumption)) | exact isW.gF (isR.w (by assumption)) | fail "no such object") rfl rfl (Nat.le_of_ble_eq_true rfl) (cw_taskAt _ hW hc hi) (fun v_2 h_2 q_2 => ?_)
  obtain ⟨q1_2, rfl⟩ := q_2
  by_cases e_2 : inW c 2 10 i
  · obtain rfl := tkAt_P e_2 q1_2
    refine r_astore_n (pc := 5) dX9_isReady_5 (Nat.le_of_ble_eq_true rfl) (by first | rfl | exact isRefV_rf _) ?_
    dsimp only [lsSt, List.set, mLs, mEnt]
    refine r_aload_n (pc := 6) dX9_isReady_6 rfl (by first | rfl | exact isRefV_rf _) ?_
    refine r_ifnull (pc := 7) (tgt := 21) dX9_isReady_7 (by decide) (by first | rfl | exact isRefV_rf _) (fun c_7 => by cases c_7) (fun a_7 c_7 => ?_)
    refine r_aload_n (pc := 10) dX9_isReady_10 rfl (by first | rfl | exact isRefV_rf _) ?_
    refine r_getf (pc := 11) dX9_isReady_11 fX9_143 (by first | assumption | exact isI.gx (by assumption) | exact isI.gc (by assumption) | exact isW.gx (by assumption) | exact isW.gF (by assumption) | exact isW.gT (by assumption) (by omega) | exact isW.gS (by assumption) (by omega) | exact isW.gK (by assumption) (by omega) | exact isW.g1 (by assumption) | exact isW.g2 (by assumption) | exact isW.g3 (by assumption) | exact isI.gx (isW.i0 (by assumption)) | exact isI.gc (isW.i0 (by assumption)) | exact isI.gx (isW.i1 (by assumption)) | exact isI.gc (isW.i1 (by assumption)) | exact isI.gx (isW.i2 (by assumption)) | exact isI.gc (isW.i2 (by assumption)) | exact isI.gx (isW.i3 (by assumption)) | exact isI.gc (isW.i3 (by assumption)) | exact isI.gx (isW.i4 (by assumption)) | exact isI.gc (isW.i4 (by assumption)) | exact isI.gx (isW.i5 (by assumption)) | exact isI.gc (isW.i5 (by assumption)) | exact isR.gx (by assumption) | exact isRd.gx (by assumption) | exact isSp.gx (by assumption) | exact isI.gx (isR.i (by assumption)) | exact isI.gx (isRd.i (by assumption)) | exact isI.gc (isRd.i (by assumption)) | exact isI.gx (isSp.i (by assumption)) | exact isW.gx (isR.w (by assumption)) | exact isW.gF (isR.w (by assumption)) | fail "no such object") (by rfl) ?_
    refine rj_if_ne (pc := 14) (tgt := 21) dX9_isReady_14 (by decide) (by first | exact b01_r | exact bz_r | omega | (constructor <;> omega) | apply_assumption | (apply atF_r; assumption) | fail "no range") (fun c_14 => ?_) (fun c_14 => ?_)
    · try simp only [b01_0, bz_0, Classical.not_not] at c_14
      refine rj_iconst (pc := 21) dX9_isReady_21 ?_
      refine r_ireturn (pc := 22) .boolean dX9_isReady_22 rfl (by first | exact nar_J0 | exact nar_J1 | exact nar_b01 | exact nar_bz) ?_
      first
      | exact ⟨rfl, rfl⟩
      | exact ⟨vf (by omega), rfl⟩
      | exact ⟨vt (by omega), rfl⟩
    · try simp only [b01_0, bz_0, Classical.not_not] at c_14
      refine rj_iconst (pc := 17) dX9_isReady_17 ?_
      refine r_goto (pc := 18) (tgt := 22) dX9_isReady_18 (by decide) ?_
      refine r_ireturn (pc := 22) .boolean dX9_isReady_22 rfl (by first | exact nar_J0 | exact nar_J1 | exact nar_b01 | exact nar_bz) ?_
      first
      | exact ⟨rfl, rfl⟩
      | exact ⟨vf (by omega), rfl⟩
      | exact ⟨vt (by omega), rfl⟩
  · obtain rfl := tkAt_N e_2 q1_2
    refine r_astore_n (pc := 5) dX9_isReady_5 (Nat.le_of_ble_eq_true rfl) (by first | rfl | exact isRefV_rf _) ?_
    dsimp only [lsSt, List.set, mLs, mEnt]
    refine r_aload_n (pc := 6) dX9_isReady_6 rfl (by first | rfl | exact isRefV_rf _) ?_
    refine r_ifnull (pc := 7) (tgt := 21) dX9_isReady_7 (by decide) (by first | rfl | exact isRefV_rf _) (fun c_7 => ?_) (fun a_7 c_7 => by cases c_7)
    refine rj_iconst (pc := 21) dX9_isReady_21 ?_
    refine r_ireturn (pc := 22) .boolean dX9_isReady_22 rfl (by first | exact nar_J0 | exact nar_J1 | exact nar_b01 | exact nar_bz) ?_
    first
    | exact ⟨rfl, rfl⟩
    | exact ⟨vf (by omega), rfl⟩
    | exact ⟨vt (by omega), rfl⟩
def ownF (c : Nat → Int) (i : Int) : Int := if 100 ≤ i then (if inW c 1 60 (i - 100) then c (305 + 3 * (i - 100).toNat) else -1) else (if inW c 0 90 i then c (33 + 3 * i.toNat) else -1)
theorem ownF_r {c : Nat → Int} (hc : ∀ q, InR (c q)) (i : Int) : InR (ownF c i) := by
  unfold ownF
  repeat' split
  all_goals first | exact hc _ | decide
set_option maxHeartbeats 4000000 in
set_option maxRecDepth 100000 in
theorem cw_ownerOf {G : mG} {l : Launch} (d : Nat) {h : mH} {w : Nat} {c : Nat → Int} {C : Nat → Nat → Int} {nm : Nat → Int64} {g : Nat → Option Nat} (hW : isW h w c C nm g) (hc : ∀ q, InR (c q)) {i : Int} (hi : InR i) : RUNM G l (d + 1) mX9_ownerOf [.ref w, .int (J i)] h (fun v h' => v = some (.int (J (ownF c i))) ∧ h' = h) := by
  refine RUNM.of (by decide +kernel) (Nat.le_of_ble_eq_true rfl) ?_
  have r0 := hc 0
  have r1 := hc 1
  refine r_iload_n (pc := 0) dX9_ownerOf_0 rfl ?_
  refine rj_bipush (pc := 1) dX9_ownerOf_1 (by decide +kernel) ?_
  refine rj_icmp_lt (pc := 3) (tgt := 28) dX9_ownerOf_3 (by decide) (by first | exact b01_r | exact bz_r | omega | (constructor <;> omega) | apply_assumption | (apply atF_r; assumption) | fail "no range") (by first | exact b01_r | exact bz_r | omega | (constructor <;> omega) | apply_assumption | (apply atF_r; assumption) | fail "no range") (fun c_3 => ?_) (fun c_3 => ?_)
  · refine r_aload_n (pc := 28) dX9_ownerOf_28 rfl (by first | rfl | exact isRefV_rf _) ?_
    refine r_iload_n (pc := 29) dX9_ownerOf_29 rfl ?_
    refine r_callV1 (pc := 30) dX9_ownerOf_30 qX9_thingAt kX9_96 vX9_thingAt (by first | assumption | exact isI.gx (by assumption) | exact isI.gc (by assumption) | exact isW.gx (by assumption) | exact isW.gF (by assumption) | exact isW.gT (by assumption) (by omega) | exact isW.gS (by assumption) (by omega) | exact isW.gK (by assumption) (by omega) | exact isW.g1 (by assumption) | exact isW.g2 (by assumption) | exact isW.g3 (by assumption) | exact isI.gx (isW.i0 (by assumption)) | exact isI.gc (isW.i0 (by assumption)) | exact isI.gx (isW.i1 (by assumption)) | exact isI.gc (isW.i1 (by assumption)) | exact isI.gx (isW.i2 (by assumption)) | exact isI.gc (isW.i2 (by assumption)) | exact isI.gx (isW.i3 (by assumption)) | exact isI.gc (isW.i3 (by assumption)) | exact isI.gx (isW.i4 (by assumption)) | exact isI.gc (isW.i4 (by assumption)) | exact isI.gx (isW.i5 (by assumption)) | exact isI.gc (isW.i5 (by assumption)) | exact isR.gx (by assumption) | exact isRd.gx (by assumption) | exact isSp.gx (by assumption) | exact isI.gx (isR.i (by assumption)) | exact isI.gx (isRd.i (by assumption)) | exact isI.gc (isRd.i (by assumption)) | exact isI.gx (isSp.i (by assumption)) | exact isW.gx (isR.w (by assumption)) | exact isW.gF (isR.w (by assumption)) | fail "no such object") rfl rfl (Nat.le_of_ble_eq_true rfl) (cw_thingAt _ hW hc hi) (fun v_30 h_30 q_30 => ?_)
    obtain ⟨q1_30, rfl⟩ := q_30
    by_cases e_30 : inW c 0 90 i
    · obtain rfl := thAt_P e_30 q1_30
      refine r_astore_n (pc := 33) dX9_ownerOf_33 (Nat.le_of_ble_eq_true rfl) (by first | rfl | exact isRefV_rf _) ?_
      dsimp only [lsSt, List.set, mLs, mEnt]
      refine r_aload_n (pc := 34) dX9_ownerOf_34 rfl (by first | rfl | exact isRefV_rf _) ?_
      refine r_ifnonnull (pc := 35) (tgt := 42) dX9_ownerOf_35 (by decide) (by first | rfl | exact isRefV_rf _) (fun a_35 c_35 => ?_) (fun c_35 => by cases c_35)
      refine r_aload_n (pc := 42) dX9_ownerOf_42 rfl (by first | rfl | exact isRefV_rf _) ?_
      refine r_getf (pc := 43) dX9_ownerOf_43 fX9_117 (by first | assumption | exact isI.gx (by assumption) | exact isI.gc (by assumption) | exact isW.gx (by assumption) | exact isW.gF (by assumption) | exact isW.gT (by assumption) (by omega) | exact isW.gS (by assumption) (by omega) | exact isW.gK (by assumption) (by omega) | exact isW.g1 (by assumption) | exact isW.g2 (by assumption) | exact isW.g3 (by assumption) | exact isI.gx (isW.i0 (by assumption)) | exact isI.gc (isW.i0 (by assumption)) | exact isI.gx (isW.i1 (by assumption)) | exact isI.gc (isW.i1 (by assumption)) | exact isI.gx (isW.i2 (by assumption)) | exact isI.gc (isW.i2 (by assumption)) | exact isI.gx (isW.i3 (by assumption)) | exact isI.gc (isW.i3 (by assumption)) | exact isI.gx (isW.i4 (by assumption)) | exact isI.gc (isW.i4 (by assumption)) | exact isI.gx (isW.i5 (by assumption)) | exact isI.gc (isW.i5 (by assumption)) | exact isR.gx (by assumption) | exact isRd.gx (by assumption) | exact isSp.gx (by assumption) | exact isI.gx (isR.i (by assumption)) | exact isI.gx (isRd.i (by assumption)) | exact isI.gc (isRd.i (by assumption)) | exact isI.gx (isSp.i (by assumption)) | exact isW.gx (isR.w (by assumption)) | exact isW.gF (isR.w (by assumption)) | fail "no such object") (by rfl) ?_
      refine r_ireturn (pc := 46) .int dX9_ownerOf_46 rfl (by first | rfl | assumption) ?_
      first
      | exact ⟨by unfold ownF; rw [if_pos (by omega), if_pos (by omega)], rfl⟩
      | exact ⟨by unfold ownF; rw [if_pos (by omega), if_neg (by omega)], rfl⟩
      | exact ⟨by unfold ownF; rw [if_neg (by omega), if_pos (by omega)], rfl⟩
      | exact ⟨by unfold ownF; rw [if_neg (by omega), if_neg (by omega)], rfl⟩
    · obtain rfl := thAt_N e_30 q1_30
      refine r_astore_n (pc := 33) dX9_ownerOf_33 (Nat.le_of_ble_eq_true rfl) (by first | rfl | exact isRefV_rf _) ?_
      dsimp only [lsSt, List.set, mLs, mEnt]
      refine r_aload_n (pc := 34) dX9_ownerOf_34 rfl (by first | rfl | exact isRefV_rf _) ?_
      refine r_ifnonnull (pc := 35) (tgt := 42) dX9_ownerOf_35 (by decide) (by first | rfl | exact isRefV_rf _) (fun a_35 c_35 => by cases c_35) (fun c_35 => ?_)
      refine rj_iconst (pc := 38) dX9_ownerOf_38 ?_
      refine r_goto (pc := 39) (tgt := 46) dX9_ownerOf_39 (by decide) ?_
      refine r_ireturn (pc := 46) .int dX9_ownerOf_46 rfl (by first | rfl | assumption) ?_
      first
      | exact ⟨by unfold ownF; rw [if_pos (by omega), if_pos (by omega)], rfl⟩
      | exact ⟨by unfold ownF; rw [if_pos (by omega), if_neg (by omega)], rfl⟩
      | exact ⟨by unfold ownF; rw [if_neg (by omega), if_pos (by omega)], rfl⟩
      | exact ⟨by unfold ownF; rw [if_neg (by omega), if_neg (by omega)], rfl⟩
  · refine r_aload_n (pc := 6) dX9_ownerOf_6 rfl (by first | rfl | exact isRefV_rf _) ?_
    refine r_iload_n (pc := 7) dX9_ownerOf_7 rfl ?_
    refine rj_bipush (pc := 8) dX9_ownerOf_8 (by decide +kernel) ?_
    refine rj_isub (pc := 10) dX9_ownerOf_10 ?_
    refine r_callV1 (pc := 11) dX9_ownerOf_11 qX9_scopeAt kX9_61 vX9_scopeAt (by first | assumption | exact isI.gx (by assumption) | exact isI.gc (by assumption) | exact isW.gx (by assumption) | exact isW.gF (by assumption) | exact isW.gT (by assumption) (by omega) | exact isW.gS (by assumption) (by omega) | exact isW.gK (by assumption) (by omega) | exact isW.g1 (by assumption) | exact isW.g2 (by assumption) | exact isW.g3 (by assumption) | exact isI.gx (isW.i0 (by assumption)) | exact isI.gc (isW.i0 (by assumption)) | exact isI.gx (isW.i1 (by assumption)) | exact isI.gc (isW.i1 (by assumption)) | exact isI.gx (isW.i2 (by assumption)) | exact isI.gc (isW.i2 (by assumption)) | exact isI.gx (isW.i3 (by assumption)) | exact isI.gc (isW.i3 (by assumption)) | exact isI.gx (isW.i4 (by assumption)) | exact isI.gc (isW.i4 (by assumption)) | exact isI.gx (isW.i5 (by assumption)) | exact isI.gc (isW.i5 (by assumption)) | exact isR.gx (by assumption) | exact isRd.gx (by assumption) | exact isSp.gx (by assumption) | exact isI.gx (isR.i (by assumption)) | exact isI.gx (isRd.i (by assumption)) | exact isI.gc (isRd.i (by assumption)) | exact isI.gx (isSp.i (by assumption)) | exact isW.gx (isR.w (by assumption)) | exact isW.gF (isR.w (by assumption)) | fail "no such object") rfl rfl (Nat.le_of_ble_eq_true rfl) (cw_scopeAt _ hW hc ⟨by omega, by omega⟩) (fun v_11 h_11 q_11 => ?_)
    obtain ⟨q1_11, rfl⟩ := q_11
    by_cases e_11 : inW c 1 60 (i - 100)
    · obtain rfl := scAt_P e_11 q1_11
      refine r_astore_n (pc := 14) dX9_ownerOf_14 (Nat.le_of_ble_eq_true rfl) (by first | rfl | exact isRefV_rf _) ?_
      dsimp only [lsSt, List.set, mLs, mEnt]
      refine r_aload_n (pc := 15) dX9_ownerOf_15 rfl (by first | rfl | exact isRefV_rf _) ?_
      refine r_ifnonnull (pc := 16) (tgt := 23) dX9_ownerOf_16 (by decide) (by first | rfl | exact isRefV_rf _) (fun a_16 c_16 => ?_) (fun c_16 => by cases c_16)
      refine r_aload_n (pc := 23) dX9_ownerOf_23 rfl (by first | rfl | exact isRefV_rf _) ?_
      refine r_getf (pc := 24) dX9_ownerOf_24 fX9_65 (by first | assumption | exact isI.gx (by assumption) | exact isI.gc (by assumption) | exact isW.gx (by assumption) | exact isW.gF (by assumption) | exact isW.gT (by assumption) (by omega) | exact isW.gS (by assumption) (by omega) | exact isW.gK (by assumption) (by omega) | exact isW.g1 (by assumption) | exact isW.g2 (by assumption) | exact isW.g3 (by assumption) | exact isI.gx (isW.i0 (by assumption)) | exact isI.gc (isW.i0 (by assumption)) | exact isI.gx (isW.i1 (by assumption)) | exact isI.gc (isW.i1 (by assumption)) | exact isI.gx (isW.i2 (by assumption)) | exact isI.gc (isW.i2 (by assumption)) | exact isI.gx (isW.i3 (by assumption)) | exact isI.gc (isW.i3 (by assumption)) | exact isI.gx (isW.i4 (by assumption)) | exact isI.gc (isW.i4 (by assumption)) | exact isI.gx (isW.i5 (by assumption)) | exact isI.gc (isW.i5 (by assumption)) | exact isR.gx (by assumption) | exact isRd.gx (by assumption) | exact isSp.gx (by assumption) | exact isI.gx (isR.i (by assumption)) | exact isI.gx (isRd.i (by assumption)) | exact isI.gc (isRd.i (by assumption)) | exact isI.gx (isSp.i (by assumption)) | exact isW.gx (isR.w (by assumption)) | exact isW.gF (isR.w (by assumption)) | fail "no such object") (by rfl) ?_
      refine r_ireturn (pc := 27) .int dX9_ownerOf_27 rfl (by first | rfl | assumption) ?_
      first
      | exact ⟨by unfold ownF; rw [if_pos (by omega), if_pos (by omega)], rfl⟩
      | exact ⟨by unfold ownF; rw [if_pos (by omega), if_neg (by omega)], rfl⟩
      | exact ⟨by unfold ownF; rw [if_neg (by omega), if_pos (by omega)], rfl⟩
      | exact ⟨by unfold ownF; rw [if_neg (by omega), if_neg (by omega)], rfl⟩
    · obtain rfl := scAt_N e_11 q1_11
      refine r_astore_n (pc := 14) dX9_ownerOf_14 (Nat.le_of_ble_eq_true rfl) (by first | rfl | exact isRefV_rf _) ?_
      dsimp only [lsSt, List.set, mLs, mEnt]
      refine r_aload_n (pc := 15) dX9_ownerOf_15 rfl (by first | rfl | exact isRefV_rf _) ?_
      refine r_ifnonnull (pc := 16) (tgt := 23) dX9_ownerOf_16 (by decide) (by first | rfl | exact isRefV_rf _) (fun a_16 c_16 => by cases c_16) (fun c_16 => ?_)
      refine rj_iconst (pc := 19) dX9_ownerOf_19 ?_
      refine r_goto (pc := 20) (tgt := 27) dX9_ownerOf_20 (by decide) ?_
      refine r_ireturn (pc := 27) .int dX9_ownerOf_27 rfl (by first | rfl | assumption) ?_
      first
      | exact ⟨by unfold ownF; rw [if_pos (by omega), if_pos (by omega)], rfl⟩
      | exact ⟨by unfold ownF; rw [if_pos (by omega), if_neg (by omega)], rfl⟩
      | exact ⟨by unfold ownF; rw [if_neg (by omega), if_pos (by omega)], rfl⟩
      | exact ⟨by unfold ownF; rw [if_neg (by omega), if_neg (by omega)], rfl⟩
set_option maxHeartbeats 4000000 in
set_option maxRecDepth 100000 in
theorem cw_thingsAreFull {G : mG} {l : Launch} (d : Nat) {h : mH} {w : Nat} {c : Nat → Int} {C : Nat → Nat → Int} {nm : Nat → Int64} {g : Nat → Option Nat} (hW : isW h w c C nm g) (hc : ∀ q, InR (c q)) : RUNM G l (d) mX9_thingsAreFull [.ref w] h (fun v h' => v = some (.int (J (b01 (90 ≤ c 0)))) ∧ h' = h) := by
  refine RUNM.of (by decide +kernel) (Nat.le_of_ble_eq_true rfl) ?_
  have r0 := hc 0
  refine r_aload_n (pc := 0) dX9_thingsAreFull_0 rfl (by first | rfl | exact isRefV_rf _) ?_
  refine r_getf (pc := 1) dX9_thingsAreFull_1 fX9_71 (by first | assumption | exact isI.gx (by assumption) | exact isI.gc (by assumption) | exact isW.gx (by assumption) | exact isW.gF (by assumption) | exact isW.gT (by assumption) (by omega) | exact isW.gS (by assumption) (by omega) | exact isW.gK (by assumption) (by omega) | exact isW.g1 (by assumption) | exact isW.g2 (by assumption) | exact isW.g3 (by assumption) | exact isI.gx (isW.i0 (by assumption)) | exact isI.gc (isW.i0 (by assumption)) | exact isI.gx (isW.i1 (by assumption)) | exact isI.gc (isW.i1 (by assumption)) | exact isI.gx (isW.i2 (by assumption)) | exact isI.gc (isW.i2 (by assumption)) | exact isI.gx (isW.i3 (by assumption)) | exact isI.gc (isW.i3 (by assumption)) | exact isI.gx (isW.i4 (by assumption)) | exact isI.gc (isW.i4 (by assumption)) | exact isI.gx (isW.i5 (by assumption)) | exact isI.gc (isW.i5 (by assumption)) | exact isR.gx (by assumption) | exact isRd.gx (by assumption) | exact isSp.gx (by assumption) | exact isI.gx (isR.i (by assumption)) | exact isI.gx (isRd.i (by assumption)) | exact isI.gc (isRd.i (by assumption)) | exact isI.gx (isSp.i (by assumption)) | exact isW.gx (isR.w (by assumption)) | exact isW.gF (isR.w (by assumption)) | fail "no such object") (by rfl) ?_
  refine r_aload_n (pc := 4) dX9_thingsAreFull_4 rfl (by first | rfl | exact isRefV_rf _) ?_
  refine r_getf (pc := 5) dX9_thingsAreFull_5 fX9_11 (by first | assumption | exact isI.gx (by assumption) | exact isI.gc (by assumption) | exact isW.gx (by assumption) | exact isW.gF (by assumption) | exact isW.gT (by assumption) (by omega) | exact isW.gS (by assumption) (by omega) | exact isW.gK (by assumption) (by omega) | exact isW.g1 (by assumption) | exact isW.g2 (by assumption) | exact isW.g3 (by assumption) | exact isI.gx (isW.i0 (by assumption)) | exact isI.gc (isW.i0 (by assumption)) | exact isI.gx (isW.i1 (by assumption)) | exact isI.gc (isW.i1 (by assumption)) | exact isI.gx (isW.i2 (by assumption)) | exact isI.gc (isW.i2 (by assumption)) | exact isI.gx (isW.i3 (by assumption)) | exact isI.gc (isW.i3 (by assumption)) | exact isI.gx (isW.i4 (by assumption)) | exact isI.gc (isW.i4 (by assumption)) | exact isI.gx (isW.i5 (by assumption)) | exact isI.gc (isW.i5 (by assumption)) | exact isR.gx (by assumption) | exact isRd.gx (by assumption) | exact isSp.gx (by assumption) | exact isI.gx (isR.i (by assumption)) | exact isI.gx (isRd.i (by assumption)) | exact isI.gc (isRd.i (by assumption)) | exact isI.gx (isSp.i (by assumption)) | exact isW.gx (isR.w (by assumption)) | exact isW.gF (isR.w (by assumption)) | fail "no such object") (by rfl) ?_
  first | refine rj_alen (pc := 8) dX9_thingsAreFull_8 (by first | assumption | exact isI.gx (by assumption) | exact isI.gc (by assumption) | exact isW.gx (by assumption) | exact isW.gF (by assumption) | exact isW.gT (by assumption) (by omega) | exact isW.gS (by assumption) (by omega) | exact isW.gK (by assumption) (by omega) | exact isW.g1 (by assumption) | exact isW.g2 (by assumption) | exact isW.g3 (by assumption) | exact isI.gx (isW.i0 (by assumption)) | exact isI.gc (isW.i0 (by assumption)) | exact isI.gx (isW.i1 (by assumption)) | exact isI.gc (isW.i1 (by assumption)) | exact isI.gx (isW.i2 (by assumption)) | exact isI.gc (isW.i2 (by assumption)) | exact isI.gx (isW.i3 (by assumption)) | exact isI.gc (isW.i3 (by assumption)) | exact isI.gx (isW.i4 (by assumption)) | exact isI.gc (isW.i4 (by assumption)) | exact isI.gx (isW.i5 (by assumption)) | exact isI.gc (isW.i5 (by assumption)) | exact isR.gx (by assumption) | exact isRd.gx (by assumption) | exact isSp.gx (by assumption) | exact isI.gx (isR.i (by assumption)) | exact isI.gx (isRd.i (by assumption)) | exact isI.gc (isRd.i (by assumption)) | exact isI.gx (isSp.i (by assumption)) | exact isW.gx (isR.w (by assumption)) | exact isW.gF (isR.w (by assumption)) | fail "no such object") ?_ | refine rj_alenR (pc := 8) dX9_thingsAreFull_8 (by first | assumption | exact isI.gx (by assumption) | exact isI.gc (by assumption) | exact isW.gx (by assumption) | exact isW.gF (by assumption) | exact isW.gT (by assumption) (by omega) | exact isW.gS (by assumption) (by omega) | exact isW.gK (by assumption) (by omega) | exact isW.g1 (by assumption) | exact isW.g2 (by assumption) | exact isW.g3 (by assumption) | exact isI.gx (isW.i0 (by assumption)) | exact isI.gc (isW.i0 (by assumption)) | exact isI.gx (isW.i1 (by assumption)) | exact isI.gc (isW.i1 (by assumption)) | exact isI.gx (isW.i2 (by assumption)) | exact isI.gc (isW.i2 (by assumption)) | exact isI.gx (isW.i3 (by assumption)) | exact isI.gc (isW.i3 (by assumption)) | exact isI.gx (isW.i4 (by assumption)) | exact isI.gc (isW.i4 (by assumption)) | exact isI.gx (isW.i5 (by assumption)) | exact isI.gc (isW.i5 (by assumption)) | exact isR.gx (by assumption) | exact isRd.gx (by assumption) | exact isSp.gx (by assumption) | exact isI.gx (isR.i (by assumption)) | exact isI.gx (isRd.i (by assumption)) | exact isI.gc (isRd.i (by assumption)) | exact isI.gx (isSp.i (by assumption)) | exact isW.gx (isR.w (by assumption)) | exact isW.gF (isR.w (by assumption)) | fail "no such object") ?_
  refine rj_icmp_lt (pc := 9) (tgt := 16) dX9_thingsAreFull_9 (by decide) (by first | exact b01_r | exact bz_r | omega | (constructor <;> omega) | apply_assumption | (apply atF_r; assumption) | fail "no range") (by first | exact b01_r | exact bz_r | omega | (constructor <;> omega) | apply_assumption | (apply atF_r; assumption) | fail "no range") (fun c_9 => ?_) (fun c_9 => ?_)
  · refine rj_iconst (pc := 16) dX9_thingsAreFull_16 ?_
    refine r_ireturn (pc := 17) .boolean dX9_thingsAreFull_17 rfl (by first | exact nar_J0 | exact nar_J1 | exact nar_b01 | exact nar_bz) ?_
    first
    | exact ⟨rfl, rfl⟩
    | exact ⟨vf (by omega), rfl⟩
    | exact ⟨vt (by omega), rfl⟩
  · refine rj_iconst (pc := 12) dX9_thingsAreFull_12 ?_
    refine r_goto (pc := 13) (tgt := 17) dX9_thingsAreFull_13 (by decide) ?_
    refine r_ireturn (pc := 17) .boolean dX9_thingsAreFull_17 rfl (by first | exact nar_J0 | exact nar_J1 | exact nar_b01 | exact nar_bz) ?_
    first
    | exact ⟨rfl, rfl⟩
    | exact ⟨vf (by omega), rfl⟩
    | exact ⟨vt (by omega), rfl⟩
set_option maxHeartbeats 4000000 in
set_option maxRecDepth 100000 in
theorem cw_scopesAreFull {G : mG} {l : Launch} (d : Nat) {h : mH} {w : Nat} {c : Nat → Int} {C : Nat → Nat → Int} {nm : Nat → Int64} {g : Nat → Option Nat} (hW : isW h w c C nm g) (hc : ∀ q, InR (c q)) : RUNM G l (d) mX9_scopesAreFull [.ref w] h (fun v h' => v = some (.int (J (b01 (60 ≤ c 1)))) ∧ h' = h) := by
  refine RUNM.of (by decide +kernel) (Nat.le_of_ble_eq_true rfl) ?_
  have r1 := hc 1
  refine r_aload_n (pc := 0) dX9_scopesAreFull_0 rfl (by first | rfl | exact isRefV_rf _) ?_
  refine r_getf (pc := 1) dX9_scopesAreFull_1 fX9_57 (by first | assumption | exact isI.gx (by assumption) | exact isI.gc (by assumption) | exact isW.gx (by assumption) | exact isW.gF (by assumption) | exact isW.gT (by assumption) (by omega) | exact isW.gS (by assumption) (by omega) | exact isW.gK (by assumption) (by omega) | exact isW.g1 (by assumption) | exact isW.g2 (by assumption) | exact isW.g3 (by assumption) | exact isI.gx (isW.i0 (by assumption)) | exact isI.gc (isW.i0 (by assumption)) | exact isI.gx (isW.i1 (by assumption)) | exact isI.gc (isW.i1 (by assumption)) | exact isI.gx (isW.i2 (by assumption)) | exact isI.gc (isW.i2 (by assumption)) | exact isI.gx (isW.i3 (by assumption)) | exact isI.gc (isW.i3 (by assumption)) | exact isI.gx (isW.i4 (by assumption)) | exact isI.gc (isW.i4 (by assumption)) | exact isI.gx (isW.i5 (by assumption)) | exact isI.gc (isW.i5 (by assumption)) | exact isR.gx (by assumption) | exact isRd.gx (by assumption) | exact isSp.gx (by assumption) | exact isI.gx (isR.i (by assumption)) | exact isI.gx (isRd.i (by assumption)) | exact isI.gc (isRd.i (by assumption)) | exact isI.gx (isSp.i (by assumption)) | exact isW.gx (isR.w (by assumption)) | exact isW.gF (isR.w (by assumption)) | fail "no such object") (by rfl) ?_
  refine r_aload_n (pc := 4) dX9_scopesAreFull_4 rfl (by first | rfl | exact isRefV_rf _) ?_
  refine r_getf (pc := 5) dX9_scopesAreFull_5 fX9_19 (by first | assumption | exact isI.gx (by assumption) | exact isI.gc (by assumption) | exact isW.gx (by assumption) | exact isW.gF (by assumption) | exact isW.gT (by assumption) (by omega) | exact isW.gS (by assumption) (by omega) | exact isW.gK (by assumption) (by omega) | exact isW.g1 (by assumption) | exact isW.g2 (by assumption) | exact isW.g3 (by assumption) | exact isI.gx (isW.i0 (by assumption)) | exact isI.gc (isW.i0 (by assumption)) | exact isI.gx (isW.i1 (by assumption)) | exact isI.gc (isW.i1 (by assumption)) | exact isI.gx (isW.i2 (by assumption)) | exact isI.gc (isW.i2 (by assumption)) | exact isI.gx (isW.i3 (by assumption)) | exact isI.gc (isW.i3 (by assumption)) | exact isI.gx (isW.i4 (by assumption)) | exact isI.gc (isW.i4 (by assumption)) | exact isI.gx (isW.i5 (by assumption)) | exact isI.gc (isW.i5 (by assumption)) | exact isR.gx (by assumption) | exact isRd.gx (by assumption) | exact isSp.gx (by assumption) | exact isI.gx (isR.i (by assumption)) | exact isI.gx (isRd.i (by assumption)) | exact isI.gc (isRd.i (by assumption)) | exact isI.gx (isSp.i (by assumption)) | exact isW.gx (isR.w (by assumption)) | exact isW.gF (isR.w (by assumption)) | fail "no such object") (by rfl) ?_
  first | refine rj_alen (pc := 8) dX9_scopesAreFull_8 (by first | assumption | exact isI.gx (by assumption) | exact isI.gc (by assumption) | exact isW.gx (by assumption) | exact isW.gF (by assumption) | exact isW.gT (by assumption) (by omega) | exact isW.gS (by assumption) (by omega) | exact isW.gK (by assumption) (by omega) | exact isW.g1 (by assumption) | exact isW.g2 (by assumption) | exact isW.g3 (by assumption) | exact isI.gx (isW.i0 (by assumption)) | exact isI.gc (isW.i0 (by assumption)) | exact isI.gx (isW.i1 (by assumption)) | exact isI.gc (isW.i1 (by assumption)) | exact isI.gx (isW.i2 (by assumption)) | exact isI.gc (isW.i2 (by assumption)) | exact isI.gx (isW.i3 (by assumption)) | exact isI.gc (isW.i3 (by assumption)) | exact isI.gx (isW.i4 (by assumption)) | exact isI.gc (isW.i4 (by assumption)) | exact isI.gx (isW.i5 (by assumption)) | exact isI.gc (isW.i5 (by assumption)) | exact isR.gx (by assumption) | exact isRd.gx (by assumption) | exact isSp.gx (by assumption) | exact isI.gx (isR.i (by assumption)) | exact isI.gx (isRd.i (by assumption)) | exact isI.gc (isRd.i (by assumption)) | exact isI.gx (isSp.i (by assumption)) | exact isW.gx (isR.w (by assumption)) | exact isW.gF (isR.w (by assumption)) | fail "no such object") ?_ | refine rj_alenR (pc := 8) dX9_scopesAreFull_8 (by first | assumption | exact isI.gx (by assumption) | exact isI.gc (by assumption) | exact isW.gx (by assumption) | exact isW.gF (by assumption) | exact isW.gT (by assumption) (by omega) | exact isW.gS (by assumption) (by omega) | exact isW.gK (by assumption) (by omega) | exact isW.g1 (by assumption) | exact isW.g2 (by assumption) | exact isW.g3 (by assumption) | exact isI.gx (isW.i0 (by assumption)) | exact isI.gc (isW.i0 (by assumption)) | exact isI.gx (isW.i1 (by assumption)) | exact isI.gc (isW.i1 (by assumption)) | exact isI.gx (isW.i2 (by assumption)) | exact isI.gc (isW.i2 (by assumption)) | exact isI.gx (isW.i3 (by assumption)) | exact isI.gc (isW.i3 (by assumption)) | exact isI.gx (isW.i4 (by assumption)) | exact isI.gc (isW.i4 (by assumption)) | exact isI.gx (isW.i5 (by assumption)) | exact isI.gc (isW.i5 (by assumption)) | exact isR.gx (by assumption) | exact isRd.gx (by assumption) | exact isSp.gx (by assumption) | exact isI.gx (isR.i (by assumption)) | exact isI.gx (isRd.i (by assumption)) | exact isI.gc (isRd.i (by assumption)) | exact isI.gx (isSp.i (by assumption)) | exact isW.gx (isR.w (by assumption)) | exact isW.gF (isR.w (by assumption)) | fail "no such object") ?_
  refine rj_icmp_lt (pc := 9) (tgt := 16) dX9_scopesAreFull_9 (by decide) (by first | exact b01_r | exact bz_r | omega | (constructor <;> omega) | apply_assumption | (apply atF_r; assumption) | fail "no range") (by first | exact b01_r | exact bz_r | omega | (constructor <;> omega) | apply_assumption | (apply atF_r; assumption) | fail "no range") (fun c_9 => ?_) (fun c_9 => ?_)
  · refine rj_iconst (pc := 16) dX9_scopesAreFull_16 ?_
    refine r_ireturn (pc := 17) .boolean dX9_scopesAreFull_17 rfl (by first | exact nar_J0 | exact nar_J1 | exact nar_b01 | exact nar_bz) ?_
    first
    | exact ⟨rfl, rfl⟩
    | exact ⟨vf (by omega), rfl⟩
    | exact ⟨vt (by omega), rfl⟩
  · refine rj_iconst (pc := 12) dX9_scopesAreFull_12 ?_
    refine r_goto (pc := 13) (tgt := 17) dX9_scopesAreFull_13 (by decide) ?_
    refine r_ireturn (pc := 17) .boolean dX9_scopesAreFull_17 rfl (by first | exact nar_J0 | exact nar_J1 | exact nar_b01 | exact nar_bz) ?_
    first
    | exact ⟨rfl, rfl⟩
    | exact ⟨vf (by omega), rfl⟩
    | exact ⟨vt (by omega), rfl⟩
set_option maxHeartbeats 4000000 in
set_option maxRecDepth 100000 in
theorem cw_tasksAreFull {G : mG} {l : Launch} (d : Nat) {h : mH} {w : Nat} {c : Nat → Int} {C : Nat → Nat → Int} {nm : Nat → Int64} {g : Nat → Option Nat} (hW : isW h w c C nm g) (hc : ∀ q, InR (c q)) : RUNM G l (d) mX9_tasksAreFull [.ref w] h (fun v h' => v = some (.int (J (b01 (10 ≤ c 2)))) ∧ h' = h) := by
  refine RUNM.of (by decide +kernel) (Nat.le_of_ble_eq_true rfl) ?_
  have r2 := hc 2
  refine r_aload_n (pc := 0) dX9_tasksAreFull_0 rfl (by first | rfl | exact isRefV_rf _) ?_
  refine r_getf (pc := 1) dX9_tasksAreFull_1 fX9_81 (by first | assumption | exact isI.gx (by assumption) | exact isI.gc (by assumption) | exact isW.gx (by assumption) | exact isW.gF (by assumption) | exact isW.gT (by assumption) (by omega) | exact isW.gS (by assumption) (by omega) | exact isW.gK (by assumption) (by omega) | exact isW.g1 (by assumption) | exact isW.g2 (by assumption) | exact isW.g3 (by assumption) | exact isI.gx (isW.i0 (by assumption)) | exact isI.gc (isW.i0 (by assumption)) | exact isI.gx (isW.i1 (by assumption)) | exact isI.gc (isW.i1 (by assumption)) | exact isI.gx (isW.i2 (by assumption)) | exact isI.gc (isW.i2 (by assumption)) | exact isI.gx (isW.i3 (by assumption)) | exact isI.gc (isW.i3 (by assumption)) | exact isI.gx (isW.i4 (by assumption)) | exact isI.gc (isW.i4 (by assumption)) | exact isI.gx (isW.i5 (by assumption)) | exact isI.gc (isW.i5 (by assumption)) | exact isR.gx (by assumption) | exact isRd.gx (by assumption) | exact isSp.gx (by assumption) | exact isI.gx (isR.i (by assumption)) | exact isI.gx (isRd.i (by assumption)) | exact isI.gc (isRd.i (by assumption)) | exact isI.gx (isSp.i (by assumption)) | exact isW.gx (isR.w (by assumption)) | exact isW.gF (isR.w (by assumption)) | fail "no such object") (by rfl) ?_
  refine r_aload_n (pc := 4) dX9_tasksAreFull_4 rfl (by first | rfl | exact isRefV_rf _) ?_
  refine r_getf (pc := 5) dX9_tasksAreFull_5 fX9_25 (by first | assumption | exact isI.gx (by assumption) | exact isI.gc (by assumption) | exact isW.gx (by assumption) | exact isW.gF (by assumption) | exact isW.gT (by assumption) (by omega) | exact isW.gS (by assumption) (by omega) | exact isW.gK (by assumption) (by omega) | exact isW.g1 (by assumption) | exact isW.g2 (by assumption) | exact isW.g3 (by assumption) | exact isI.gx (isW.i0 (by assumption)) | exact isI.gc (isW.i0 (by assumption)) | exact isI.gx (isW.i1 (by assumption)) | exact isI.gc (isW.i1 (by assumption)) | exact isI.gx (isW.i2 (by assumption)) | exact isI.gc (isW.i2 (by assumption)) | exact isI.gx (isW.i3 (by assumption)) | exact isI.gc (isW.i3 (by assumption)) | exact isI.gx (isW.i4 (by assumption)) | exact isI.gc (isW.i4 (by assumption)) | exact isI.gx (isW.i5 (by assumption)) | exact isI.gc (isW.i5 (by assumption)) | exact isR.gx (by assumption) | exact isRd.gx (by assumption) | exact isSp.gx (by assumption) | exact isI.gx (isR.i (by assumption)) | exact isI.gx (isRd.i (by assumption)) | exact isI.gc (isRd.i (by assumption)) | exact isI.gx (isSp.i (by assumption)) | exact isW.gx (isR.w (by assumption)) | exact isW.gF (isR.w (by assumption)) | fail "no such object") (by rfl) ?_
  first | refine rj_alen (pc := 8) dX9_tasksAreFull_8 (by first | assumption | exact isI.gx (by assumption) | exact isI.gc (by assumption) | exact isW.gx (by assumption) | exact isW.gF (by assumption) | exact isW.gT (by assumption) (by omega) | exact isW.gS (by assumption) (by omega) | exact isW.gK (by assumption) (by omega) | exact isW.g1 (by assumption) | exact isW.g2 (by assumption) | exact isW.g3 (by assumption) | exact isI.gx (isW.i0 (by assumption)) | exact isI.gc (isW.i0 (by assumption)) | exact isI.gx (isW.i1 (by assumption)) | exact isI.gc (isW.i1 (by assumption)) | exact isI.gx (isW.i2 (by assumption)) | exact isI.gc (isW.i2 (by assumption)) | exact isI.gx (isW.i3 (by assumption)) | exact isI.gc (isW.i3 (by assumption)) | exact isI.gx (isW.i4 (by assumption)) | exact isI.gc (isW.i4 (by assumption)) | exact isI.gx (isW.i5 (by assumption)) | exact isI.gc (isW.i5 (by assumption)) | exact isR.gx (by assumption) | exact isRd.gx (by assumption) | exact isSp.gx (by assumption) | exact isI.gx (isR.i (by assumption)) | exact isI.gx (isRd.i (by assumption)) | exact isI.gc (isRd.i (by assumption)) | exact isI.gx (isSp.i (by assumption)) | exact isW.gx (isR.w (by assumption)) | exact isW.gF (isR.w (by assumption)) | fail "no such object") ?_ | refine rj_alenR (pc := 8) dX9_tasksAreFull_8 (by first | assumption | exact isI.gx (by assumption) | exact isI.gc (by assumption) | exact isW.gx (by assumption) | exact isW.gF (by assumption) | exact isW.gT (by assumption) (by omega) | exact isW.gS (by assumption) (by omega) | exact isW.gK (by assumption) (by omega) | exact isW.g1 (by assumption) | exact isW.g2 (by assumption) | exact isW.g3 (by assumption) | exact isI.gx (isW.i0 (by assumption)) | exact isI.gc (isW.i0 (by assumption)) | exact isI.gx (isW.i1 (by assumption)) | exact isI.gc (isW.i1 (by assumption)) | exact isI.gx (isW.i2 (by assumption)) | exact isI.gc (isW.i2 (by assumption)) | exact isI.gx (isW.i3 (by assumption)) | exact isI.gc (isW.i3 (by assumption)) | exact isI.gx (isW.i4 (by assumption)) | exact isI.gc (isW.i4 (by assumption)) | exact isI.gx (isW.i5 (by assumption)) | exact isI.gc (isW.i5 (by assumption)) | exact isR.gx (by assumption) | exact isRd.gx (by assumption) | exact isSp.gx (by assumption) | exact isI.gx (isR.i (by assumption)) | exact isI.gx (isRd.i (by assumption)) | exact isI.gc (isRd.i (by assumption)) | exact isI.gx (isSp.i (by assumption)) | exact isW.gx (isR.w (by assumption)) | exact isW.gF (isR.w (by assumption)) | fail "no such object") ?_
  refine rj_icmp_lt (pc := 9) (tgt := 16) dX9_tasksAreFull_9 (by decide) (by first | exact b01_r | exact bz_r | omega | (constructor <;> omega) | apply_assumption | (apply atF_r; assumption) | fail "no range") (by first | exact b01_r | exact bz_r | omega | (constructor <;> omega) | apply_assumption | (apply atF_r; assumption) | fail "no range") (fun c_9 => ?_) (fun c_9 => ?_)
  · refine rj_iconst (pc := 16) dX9_tasksAreFull_16 ?_
    refine r_ireturn (pc := 17) .boolean dX9_tasksAreFull_17 rfl (by first | exact nar_J0 | exact nar_J1 | exact nar_b01 | exact nar_bz) ?_
    first
    | exact ⟨rfl, rfl⟩
    | exact ⟨vf (by omega), rfl⟩
    | exact ⟨vt (by omega), rfl⟩
  · refine rj_iconst (pc := 12) dX9_tasksAreFull_12 ?_
    refine r_goto (pc := 13) (tgt := 17) dX9_tasksAreFull_13 (by decide) ?_
    refine r_ireturn (pc := 17) .boolean dX9_tasksAreFull_17 rfl (by first | exact nar_J0 | exact nar_J1 | exact nar_b01 | exact nar_bz) ?_
    first
    | exact ⟨rfl, rfl⟩
    | exact ⟨vf (by omega), rfl⟩
    | exact ⟨vt (by omega), rfl⟩
