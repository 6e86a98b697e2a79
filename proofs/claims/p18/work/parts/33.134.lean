section mg_54
set_option maxHeartbeats 4000000 in
set_option maxRecDepth 100000 in
theorem k_X9_tail {G : mG} {l : Launch} (d : Nat) {h hK : mH} {a : Nat} (e0 : hGet hK a = some (.inl (9, [.ref (a + 1), .ref (a + 2), .ref (a + 3), .int 0, .int 0, .int 0, .int 0, .ref (a + 4), .ref (a + 6), .ref (a + 8), .ref (a + 10)]))) (e1 : hGet hK (a + 1) = some (.inr (.inr (2, 90, fun q => if q < 90 then some (a + 17 + q) else none)))) (e2 : hGet hK (a + 2) = some (.inr (.inr (3, 60, fun q => if q < 60 then some (a + 107 + q) else none)))) (e3 : hGet hK (a + 3) = some (.inr (.inr (4, 10, fun q => if q < 10 then some (a + 167 + q) else none)))) (e10 : hGet hK (a + 10) = some (.inl (0, [.ref (a + 11), .ref (a + 13), .ref (a + 15), .int 0]))) (e4 : hGet hK (a + 4) = some (.inl (1, [.ref (a + 5), .int (J 0)]))) (e5 : hGet hK (a + 5) = some (.inr (.inl (8, fun _ => J 0)))) (e6 : hGet hK (a + 6) = some (.inl (1, [.ref (a + 7), .int (J 0)]))) (e7 : hGet hK (a + 7) = some (.inr (.inl (90, fun _ => J 0)))) (e8 : hGet hK (a + 8) = some (.inl (1, [.ref (a + 9), .int (J 0)]))) (e9 : hGet hK (a + 9) = some (.inr (.inl (150, fun _ => J 0)))) (e11 : hGet hK (a + 11) = some (.inl (1, [.ref (a + 12), .int (J 0)]))) (e12 : hGet hK (a + 12) = some (.inr (.inl (90, fun _ => J 0)))) (e13 : hGet hK (a + 13) = some (.inl (1, [.ref (a + 14), .int (J 0)]))) (e14 : hGet hK (a + 14) = some (.inr (.inl (90, fun _ => J 0)))) (e15 : hGet hK (a + 15) = some (.inl (1, [.ref (a + 16), .int (J 0)]))) (e16 : hGet hK (a + 16) = some (.inr (.inl (90, fun _ => J 0)))) (lo9 : hK.1 ≤ a) (low9 : ∀ b, b < a → hGet hK b = hGet h b) (l9 : hK.1 = h.1) (n9 : hK.2.1 = a + 177) (k9 : hK.2.2.1 = h.2.2.1 + 1524) (zT : ∀ q, q < 90 → hGet hK (a + 17 + q) = some (.inl (8, [.long 0, .null, .null, .int 0, .int 0, .int 0]))) (zS : ∀ q, q < 60 → hGet hK (a + 107 + q) = some (.inl (4, [.int 0, .int 0, .int 0]))) (zK : ∀ q, q < 10 → hGet hK (a + 167 + q) = some (.inl (7, [.null, .null, .int 0, .int 0, .int 0, .int 0, .int 0, .int 0, .int 0, .int 0, .int 0]))) : RUN G l (d + 3) mX9_init 172 [some (.ref a), some (.int (J (10 : Int)))] [] hK (fun v h' => v = none ∧ isW h' a wc0 wC0 wn0 wg0 ∧ Grow a h h' ∧ h'.1 = h.1 ∧ h'.2.1 = a + 177 ∧ h'.2.2.1 = h.2.2.1 + 1524) := by
  have hW0 : isW hK a w0 (fun _ => w0) wn0 wg0 := by
    refine ⟨lo9, ?_, e1, e2, e3, ?_, fun k hk => ?_, fun q hq => ?_, fun q hq => ?_, fun q hq => ?_⟩
    · rw [J_0] at e0; exact e0
    · rw [J_0] at e10; exact e10
    · match k, hk with
      | 0, _ => exact ⟨Nat.le_trans lo9 (Nat.le_add_right _ _), e4, e5⟩
      | 1, _ => exact ⟨Nat.le_trans lo9 (Nat.le_add_right _ _), e6, e7⟩
      | 2, _ => exact ⟨Nat.le_trans lo9 (Nat.le_add_right _ _), e8, e9⟩
      | 3, _ => exact ⟨Nat.le_trans lo9 (Nat.le_add_right _ _), e11, e12⟩
      | 4, _ => exact ⟨Nat.le_trans lo9 (Nat.le_add_right _ _), e13, e14⟩
      | 5, _ => exact ⟨Nat.le_trans lo9 (Nat.le_add_right _ _), e15, e16⟩
      | k + 6, hk => omega
    · have y := zT q hq; rw [J_0] at y; exact y
    · have y := zS q hq; rw [J_0] at y; exact y
    · have y := zK q hq; rw [J_0] at y; exact y
  refine r_aload_n (pc := 172) dX9_init_172 rfl rfl ?_
  refine r_getf (pc := 173) dX9_init_173 fX9_34 hW0.gx (by rfl) ?_
  refine rj_bipush (pc := 176) dX9_init_176 (by decide +kernel) ?_
  refine r_callV1 (pc := 178) dX9_init_178 qX1_becomeZeros kX9_54 vX1_becomeZeros (by first | assumption | exact isI.gx (by assumption) | exact isI.gc (by assumption) | exact isW.gx (by assumption) | exact isW.gF (by assumption) | exact isW.gT (by assumption) (by omega) | exact isW.gS (by assumption) (by omega) | exact isW.gK (by assumption) (by omega) | exact isW.g1 (by assumption) | exact isW.g2 (by assumption) | exact isW.g3 (by assumption) | exact isI.gx (isW.i0 (by assumption)) | exact isI.gc (isW.i0 (by assumption)) | exact isI.gx (isW.i1 (by assumption)) | exact isI.gc (isW.i1 (by assumption)) | exact isI.gx (isW.i2 (by assumption)) | exact isI.gc (isW.i2 (by assumption)) | exact isI.gx (isW.i3 (by assumption)) | exact isI.gc (isW.i3 (by assumption)) | exact isI.gx (isW.i4 (by assumption)) | exact isI.gc (isW.i4 (by assumption)) | exact isI.gx (isW.i5 (by assumption)) | exact isI.gc (isW.i5 (by assumption)) | exact isR.gx (by assumption) | exact isRd.gx (by assumption) | exact isSp.gx (by assumption) | exact isI.gx (isR.i (by assumption)) | exact isI.gx (isRd.i (by assumption)) | exact isI.gc (isRd.i (by assumption)) | exact isI.gx (isSp.i (by assumption)) | exact isW.gx (isR.w (by assumption)) | exact isW.gF (isR.w (by assumption)) | fail "no such object") rfl rfl (Nat.le_of_ble_eq_true rfl) (ci_becomeZeros _ (Z := 8) hW0.i0 (by decide) (w0_r _) (by decide)) (fun v_178 h_178 q_178 => ?_)
  obtain ⟨rfl, I_178, S_178⟩ := q_178
  have hW1 := hW0.ofI (j := 0) (by decide) S_178 I_178
  refine r_aload_n (pc := 181) dX9_init_181 rfl rfl ?_
  refine rj_iconst (pc := 182) dX9_init_182 ?_
  refine rc_putw1 (pc := 183) dX9_init_183 fX9_57 hW1 (fun h_183 hW_183 S_183 => ?_)
  refine r_aload_n (pc := 186) dX9_init_186 rfl rfl ?_
  refine rj_iconst (pc := 187) dX9_init_187 ?_
  have hcc : ∀ q, InR (updI (updI w0 8 8) 1 1 q) := by intro q; unfold updI; (repeat' split) <;> first | decide | exact w0_r _
  refine r_callV1 (pc := 188) dX9_init_188 qX9_scopeAt kX9_61 vX9_scopeAt (by first | assumption | exact isI.gx (by assumption) | exact isI.gc (by assumption) | exact isW.gx (by assumption) | exact isW.gF (by assumption) | exact isW.gT (by assumption) (by omega) | exact isW.gS (by assumption) (by omega) | exact isW.gK (by assumption) (by omega) | exact isW.g1 (by assumption) | exact isW.g2 (by assumption) | exact isW.g3 (by assumption) | exact isI.gx (isW.i0 (by assumption)) | exact isI.gc (isW.i0 (by assumption)) | exact isI.gx (isW.i1 (by assumption)) | exact isI.gc (isW.i1 (by assumption)) | exact isI.gx (isW.i2 (by assumption)) | exact isI.gc (isW.i2 (by assumption)) | exact isI.gx (isW.i3 (by assumption)) | exact isI.gc (isW.i3 (by assumption)) | exact isI.gx (isW.i4 (by assumption)) | exact isI.gc (isW.i4 (by assumption)) | exact isI.gx (isW.i5 (by assumption)) | exact isI.gc (isW.i5 (by assumption)) | exact isR.gx (by assumption) | exact isRd.gx (by assumption) | exact isSp.gx (by assumption) | exact isI.gx (isR.i (by assumption)) | exact isI.gx (isRd.i (by assumption)) | exact isI.gc (isRd.i (by assumption)) | exact isI.gx (isSp.i (by assumption)) | exact isW.gx (isR.w (by assumption)) | exact isW.gF (isR.w (by assumption)) | fail "no such object") rfl rfl (Nat.le_of_ble_eq_true rfl) (cw_scopeAt _ hW_183 hcc ⟨by decide, by decide⟩) (fun v_188 h_188 q_188 => ?_)
  obtain ⟨q1_188, rfl⟩ := q_188
  obtain rfl := scAt_P (by decide) q1_188
  refine r_astore_n (pc := 191) dX9_init_191 (Nat.le_of_ble_eq_true rfl) rfl ?_
  dsimp only [lsSt, List.set, mLs, mEnt]
  refine r_aload_n (pc := 192) dX9_init_192 rfl rfl ?_
  refine r_ifnull (pc := 193) (tgt := 208) dX9_init_193 (by decide) rfl (fun c_193 => by cases c_193) (fun a_193 c_193 => ?_)
  refine r_aload_n (pc := 196) dX9_init_196 rfl rfl ?_
  refine rj_bipush (pc := 197) dX9_init_197 (by decide +kernel) ?_
  refine rc_putS1 (pc := 199) (q0 := 0) dX9_init_199 fX9_65 hW_183 (by decide) (fun h_199 hW_199 S_199 => ?_)
  refine r_aload_n (pc := 202) dX9_init_202 rfl rfl ?_
  refine rj_bipush (pc := 203) dX9_init_203 (by decide +kernel) ?_
  refine rc_putS2 (pc := 205) (q0 := 0) dX9_init_205 fX9_68 hW_199 (by decide) (fun h_205 hW_205 S_205 => ?_)
  refine r_return (pc := 208) dX9_init_208 rfl ?_
  have S1 := ((S_178.mono (fun b hb => iBlk_wBlk (j := 0) hb)).trans S_183).trans (S_199.trans S_205)
  exact ⟨rfl, hW_205, fun b hb => (S1.2.2.2 b (fun q => by unfold wBlk at q; omega)).trans (low9 b hb), S1.1.trans l9, S1.2.1.trans n9, S1.2.2.1.trans k9⟩
end mg_54
