/-! ===== the law: a turn, the forty turns, all of it (by program) ===== -/
section NH
variable {G : mG} {l : Launch} {x n0 b : Nat} {h : mH} {tn kk s N : Int} {qq : Int32} {sg : Int64} {Q : Option Value → mH → Prop}
set_option maxHeartbeats 4000000 in
set_option maxRecDepth 100000 in
theorem TLK.of (K : ∀ (n1 : Nat) (h1 : mH) (g4 : Int) (m1 kp1 po1 : Nat → Int) (f1 : Nat → Int) (a4 a5 a6 a7 a8 a9 a10 a11 a12 a13 a14 a15 : Option Value), RO x (x + 196) n1 g4 m1 kp1 po1 0 f1 h1 → JI m1 → n1 ≤ n0 + 5 → GRW x h h1 → RUN G l 2048 mLaw 12 [some (.ref b), some (.ref x), some (.int (J 1)), some (.int (J (tn + 1))), a4, a5, a6, a7, a8, a9, a10, a11, a12, a13, a14, a15] [] h1 Q) : TLK G l x n0 b h tn kk s N qq sg Q := by
  intro n1 h1 g4 m1 kp1 po1 f1 X a11 a12 a13 a14 a15 hI hj hn hg hX hc
  refine law_tail hI hj hX hc (fun a => ?_)
  refine rj_iinc (pc := 1339) dL_law_1339 (Nat.le_of_ble_eq_true rfl) rfl ?_
  dsimp only [lsSt, List.set, mLs, mEnt]
  refine r_goto (pc := 1342) (tgt := 12) dL_law_1342 (by decide) ?_
  exact K _ _ _ _ _ _ _ _ _ _ _ _ _ _ _ _ _ _ _ hI hj hn hg
set_option maxHeartbeats 4000000 in
set_option maxRecDepth 100000 in
theorem law_loop {L Y Z : Nat} {f : Nat → Int32} (hG : G.2.map Prod.snd = mTy) (hb : b < x) (hL : L ≤ 3072) : ∀ (n : Nat) (tn : Int) (n0 : Nat) (h : mH) (f4 : Int) (m kpm pool : Nat → Int) (ft : Nat → Int) (a4 a5 a6 a7 a8 a9 a10 a11 a12 a13 a14 a15 : Option Value), tn + (n : Int) = 40 → 0 ≤ tn → (n0 : Int) ≤ 1 + 5 * tn → RO x (x + 196) n0 f4 m kpm pool 0 ft h → JI m → hGet h b = some (.inr (.inl (L, f))) → h.2.1 + 4000 * n ≤ Y → h.2.2.1 + 40000 * n ≤ Z → RUN G l 2048 mLaw 12 [some (.ref b), some (.ref x), some (.int (J 1)), some (.int (J tn)), a4, a5, a6, a7, a8, a9, a10, a11, a12, a13, a14, a15] [] h (fun v h' => v = some (.int 1) ∧ h'.2.1 ≤ Y ∧ h'.2.2.1 ≤ Z) := by
  intro n
  induction n with
  | zero =>
    intro tn n0 h f4 m kpm pool ft a4 a5 a6 a7 a8 a9 a10 a11 a12 a13 a14 a15 e40 e0 hn0 hI hj hA hY hZ
    refine r_iload_n (pc := 12) dL_law_12 rfl ?_
    refine rj_bipush (pc := 13) dL_law_13 (by decide +kernel) ?_
    refine rj_icmp_ge (pc := 15) (tgt := 1345) dL_law_15 (by decide) (by first | exact b01_r | exact bz_r | omega | (constructor <;> omega) | apply_assumption | (apply atF_r; assumption) | fail "no range") (by first | exact b01_r | exact bz_r | omega | (constructor <;> omega) | apply_assumption | (apply atF_r; assumption) | fail "no range") (fun c_15 => ?_) (fun c_15 => ?_)
    · refine r_iload_n (pc := 1345) dL_law_1345 rfl ?_
      refine r_ireturn (pc := 1346) .boolean dL_law_1346 rfl nar_J1 ?_
      exact ⟨by rw [J_1], by omega, by omega⟩
    · exfalso; first | omega | contradiction | (simp at *; done)
  | succ n ih =>
    intro tn n0 h f4 m kpm pool ft a4 a5 a6 a7 a8 a9 a10 a11 a12 a13 a14 a15 e40 e0 hn0 hI hj hA hY hZ
    obtain ⟨fs, ho⟩ := hI.gx
    obtain ⟨m0, m1, m2, m3, hh, -⟩ := hI.b2
    refine r_iload_n (pc := 12) dL_law_12 rfl ?_
    refine rj_bipush (pc := 13) dL_law_13 (by decide +kernel) ?_
    refine rj_icmp_ge (pc := 15) (tgt := 1345) dL_law_15 (by decide) (by first | exact b01_r | exact bz_r | omega | (constructor <;> omega) | apply_assumption | (apply atF_r; assumption) | fail "no range") (by first | exact b01_r | exact bz_r | omega | (constructor <;> omega) | apply_assumption | (apply atF_r; assumption) | fail "no range") (fun c_15 => ?_) (fun c_15 => ?_)
    · exfalso; first | omega | contradiction | (simp at *; done)
    · refine r_aload_n (pc := 18) dL_law_18 rfl (by first | rfl | exact isRefV_rf _) ?_
      refine r_iload_n (pc := 19) dL_law_19 rfl ?_
      refine r_callS2 (pc := 20) dL_law_20 qL_cell kL_90 sL_cell (Nat.le_of_ble_eq_true rfl) (jl_cell _ hA hL (by omega)) (fun v_20 h_20 q_20 => ?_)
      obtain ⟨⟨qq, rfl⟩, e_h⟩ := q_20; replace e_h := e_h.symm; subst e_h
      refine r_istore (pc := 23) dL_law_23 (Nat.le_of_ble_eq_true rfl) ?_
      dsimp only [lsSt, List.set, mLs, mEnt]
      refine r_iload (pc := 25) dL_law_25 rfl ?_
      refine rj_bipush (pc := 27) dL_law_27 (by decide +kernel) ?_
      refine rj_andM (pc := 29) dL_law_29 (by constructor <;> decide) (fun e_29 he_29 => ?_)
      refine r_istore (pc := 30) dL_law_30 (Nat.le_of_ble_eq_true rfl) ?_
      dsimp only [lsSt, List.set, mLs, mEnt]
      refine r_iload (pc := 32) dL_law_32 rfl ?_
      refine rj_iconst (pc := 34) dL_law_34 ?_
      refine r_ishr (pc := 35) dL_law_35 ?_
      refine rj_bipush (pc := 36) dL_law_36 (by decide +kernel) ?_
      refine rj_andM (pc := 38) dL_law_38 (by constructor <;> decide) (fun e_38 he_38 => ?_)
      refine r_aload_n (pc := 39) dL_law_39 rfl (by first | rfl | exact isRefV_rf _) ?_
      refine rj_iconst (pc := 40) dL_law_40 ?_
      refine r_callV1 (pc := 41) dL_law_41 qX10_told kL_43 vX10_told ho rfl rfl (Nat.le_of_ble_eq_true rfl) ((oa_tld hI (k := 0) (by omega)).deeper (Nat.le_of_ble_eq_true rfl)) (fun v_41 h_41 q_41 => ?_)
      obtain ⟨rfl, e_h⟩ := q_41; replace e_h := e_h.symm; subst e_h
      rw [show toldV m 0 0 (m 1).toNat (m 0).toNat (m 3).toNat 0 = m 0 from rfl]
      refine rj_mod (pc := 44) dL_law_44 (by omega) (by omega) ?_
      have md_44 : 0 ≤ e_38 % m 0 ∧ e_38 % m 0 < m 0 := ⟨Int.emod_nonneg _ (by omega), Int.emod_lt_of_pos _ (by omega)⟩
      generalize e_38 % m 0 = s at md_44 ⊢
      refine r_istore (pc := 45) dL_law_45 (Nat.le_of_ble_eq_true rfl) ?_
      dsimp only [lsSt, List.set, mLs, mEnt]
      refine r_aload_n (pc := 47) dL_law_47 rfl (by first | rfl | exact isRefV_rf _) ?_
      refine rj_iconst (pc := 48) dL_law_48 ?_
      refine r_callV1 (pc := 49) dL_law_49 qX10_told kL_43 vX10_told ho rfl rfl (Nat.le_of_ble_eq_true rfl) ((oa_tld hI (k := 2) (by omega)).deeper (Nat.le_of_ble_eq_true rfl)) (fun v_49 h_49 q_49 => ?_)
      obtain ⟨rfl, e_h⟩ := q_49; replace e_h := e_h.symm; subst e_h
      rw [show toldV m 0 0 (m 1).toNat (m 0).toNat (m 3).toNat 2 = m 1 from rfl]
      refine r_istore (pc := 52) dL_law_52 (Nat.le_of_ble_eq_true rfl) ?_
      dsimp only [lsSt, List.set, mLs, mEnt]
      refine r_aload_n (pc := 54) dL_law_54 rfl (by first | rfl | exact isRefV_rf _) ?_
      refine r_callS1 (pc := 55) dL_law_55 qL_sight kL_94 sL_sight (Nat.le_of_ble_eq_true rfl) ((jl_sight hI).deeper (Nat.le_of_ble_eq_true rfl)) (fun v_55 h_55 q_55 => ?_)
      obtain ⟨rfl, e_h⟩ := q_55; replace e_h := e_h.symm; subst e_h
      refine r_lstore (pc := 58) dL_law_58 (Nat.le_of_ble_eq_true rfl) ?_
      dsimp only [lsSt, lsSt2, List.set, mLs, mEnt]
      refine rj_iconst (pc := 60) dL_law_60 ?_
      refine r_istore (pc := 61) dL_law_61 (Nat.le_of_ble_eq_true rfl) ?_
      dsimp only [lsSt, List.set, mLs, mEnt]
      refine r_iload (pc := 63) dL_law_63 rfl ?_
      refine rj_iconst (pc := 65) dL_law_65 ?_
      refine rj_icmp_ge (pc := 66) (tgt := 115) dL_law_66 (by decide) (by first | exact b01_r | exact bz_r | omega | (constructor <;> omega) | apply_assumption | (apply atF_r; assumption) | fail "no range") (by first | exact b01_r | exact bz_r | omega | (constructor <;> omega) | apply_assumption | (apply atF_r; assumption) | fail "no range") (fun c_66 => ?_) (fun c_66 => ?_)
      · refine r_iload (pc := 115) dL_law_115 rfl ?_
        refine rj_bipush (pc := 117) dL_law_117 (by decide +kernel) ?_
        refine rj_icmp_ge (pc := 119) (tgt := 280) dL_law_119 (by decide) (by first | exact b01_r | exact bz_r | omega | (constructor <;> omega) | apply_assumption | (apply atF_r; assumption) | fail "no range") (by first | exact b01_r | exact bz_r | omega | (constructor <;> omega) | apply_assumption | (apply atF_r; assumption) | fail "no range") (fun c_119 => ?_) (fun c_119 => ?_)
        · refine r_iload (pc := 280) dL_law_280 rfl ?_
          refine rj_bipush (pc := 282) dL_law_282 (by decide +kernel) ?_
          refine rj_icmp_ne (pc := 284) (tgt := 405) dL_law_284 (by decide) (by first | exact b01_r | exact bz_r | omega | (constructor <;> omega) | apply_assumption | (apply atF_r; assumption) | fail "no range") (by first | exact b01_r | exact bz_r | omega | (constructor <;> omega) | apply_assumption | (apply atF_r; assumption) | fail "no range") (fun c_284 => ?_) (fun c_284 => ?_)
          · refine r_iload (pc := 405) dL_law_405 rfl ?_
            refine rj_bipush (pc := 407) dL_law_407 (by decide +kernel) ?_
            refine rj_icmp_ne (pc := 409) (tgt := 441) dL_law_409 (by decide) (by first | exact b01_r | exact bz_r | omega | (constructor <;> omega) | apply_assumption | (apply atF_r; assumption) | fail "no range") (by first | exact b01_r | exact bz_r | omega | (constructor <;> omega) | apply_assumption | (apply atF_r; assumption) | fail "no range") (fun c_409 => ?_) (fun c_409 => ?_)
            · refine r_iload (pc := 441) dL_law_441 rfl ?_
              refine rj_bipush (pc := 443) dL_law_443 (by decide +kernel) ?_
              refine rj_icmp_ne (pc := 445) (tgt := 576) dL_law_445 (by decide) (by first | exact b01_r | exact bz_r | omega | (constructor <;> omega) | apply_assumption | (apply atF_r; assumption) | fail "no range") (by first | exact b01_r | exact bz_r | omega | (constructor <;> omega) | apply_assumption | (apply atF_r; assumption) | fail "no range") (fun c_445 => ?_) (fun c_445 => ?_)
              · refine r_iload (pc := 576) dL_law_576 rfl ?_
                refine rj_bipush (pc := 578) dL_law_578 (by decide +kernel) ?_
                refine rj_icmp_ne (pc := 580) (tgt := 614) dL_law_580 (by decide) (by first | exact b01_r | exact bz_r | omega | (constructor <;> omega) | apply_assumption | (apply atF_r; assumption) | fail "no range") (by first | exact b01_r | exact bz_r | omega | (constructor <;> omega) | apply_assumption | (apply atF_r; assumption) | fail "no range") (fun c_580 => ?_) (fun c_580 => ?_)
                · refine r_iload (pc := 614) dL_law_614 rfl ?_
                  refine rj_bipush (pc := 616) dL_law_616 (by decide +kernel) ?_
                  refine rj_icmp_ge (pc := 618) (tgt := 714) dL_law_618 (by decide) (by first | exact b01_r | exact bz_r | omega | (constructor <;> omega) | apply_assumption | (apply atF_r; assumption) | fail "no range") (by first | exact b01_r | exact bz_r | omega | (constructor <;> omega) | apply_assumption | (apply atF_r; assumption) | fail "no range") (fun c_618 => ?_) (fun c_618 => ?_)
                  · refine r_iload (pc := 714) dL_law_714 rfl ?_
                    refine rj_bipush (pc := 716) dL_law_716 (by decide +kernel) ?_
                    refine rj_icmp_ne (pc := 718) (tgt := 790) dL_law_718 (by decide) (by first | exact b01_r | exact bz_r | omega | (constructor <;> omega) | apply_assumption | (apply atF_r; assumption) | fail "no range") (by first | exact b01_r | exact bz_r | omega | (constructor <;> omega) | apply_assumption | (apply atF_r; assumption) | fail "no range") (fun c_718 => ?_) (fun c_718 => ?_)
                    · refine r_iload (pc := 790) dL_law_790 rfl ?_
                      refine rj_bipush (pc := 792) dL_law_792 (by decide +kernel) ?_
                      refine rj_icmp_ne (pc := 794) (tgt := 1006) dL_law_794 (by decide) (by first | exact b01_r | exact bz_r | omega | (constructor <;> omega) | apply_assumption | (apply atF_r; assumption) | fail "no range") (by first | exact b01_r | exact bz_r | omega | (constructor <;> omega) | apply_assumption | (apply atF_r; assumption) | fail "no range") (fun c_794 => ?_) (fun c_794 => ?_)
                      · refine r_iload (pc := 1006) dL_law_1006 rfl ?_
                        refine rj_bipush (pc := 1008) dL_law_1008 (by decide +kernel) ?_
                        refine rj_icmp_ne (pc := 1010) (tgt := 1122) dL_law_1010 (by decide) (by first | exact b01_r | exact bz_r | omega | (constructor <;> omega) | apply_assumption | (apply atF_r; assumption) | fail "no range") (by first | exact b01_r | exact bz_r | omega | (constructor <;> omega) | apply_assumption | (apply atF_r; assumption) | fail "no range") (fun c_1010 => ?_) (fun c_1010 => ?_)
                        · exact law_youngest hG (by omega) hI hj (by omega) rfl (TLK.of (fun n1 h1 g4 m1 kp1 po1 f1 b4 b5 b6 b7 b8 b9 b10 b11 b12 b13 b14 b15 i1 j1 k1 g1 => ih (tn + 1) n1 h1 g4 m1 kp1 po1 f1 b4 b5 b6 b7 b8 b9 b10 b11 b12 b13 b14 b15 (by omega) (by omega) (by omega) i1 j1 ((g1.1.2 b hb).trans hA) (by have := g1.2.1; omega) (by have := g1.2.2; omega)))
                        · exact law_plan hG (by omega) hI hj (by omega) rfl (TLK.of (fun n1 h1 g4 m1 kp1 po1 f1 b4 b5 b6 b7 b8 b9 b10 b11 b12 b13 b14 b15 i1 j1 k1 g1 => ih (tn + 1) n1 h1 g4 m1 kp1 po1 f1 b4 b5 b6 b7 b8 b9 b10 b11 b12 b13 b14 b15 (by omega) (by omega) (by omega) i1 j1 ((g1.1.2 b hb).trans hA) (by have := g1.2.1; omega) (by have := g1.2.2; omega)))
                      · exact law_names hG (by omega) hI hj (by omega) rfl (TLK.of (fun n1 h1 g4 m1 kp1 po1 f1 b4 b5 b6 b7 b8 b9 b10 b11 b12 b13 b14 b15 i1 j1 k1 g1 => ih (tn + 1) n1 h1 g4 m1 kp1 po1 f1 b4 b5 b6 b7 b8 b9 b10 b11 b12 b13 b14 b15 (by omega) (by omega) (by omega) i1 j1 ((g1.1.2 b hb).trans hA) (by have := g1.2.1; omega) (by have := g1.2.2; omega)))
                    · exact law_image hG (by omega) hI hj (by omega) rfl (TLK.of (fun n1 h1 g4 m1 kp1 po1 f1 b4 b5 b6 b7 b8 b9 b10 b11 b12 b13 b14 b15 i1 j1 k1 g1 => ih (tn + 1) n1 h1 g4 m1 kp1 po1 f1 b4 b5 b6 b7 b8 b9 b10 b11 b12 b13 b14 b15 (by omega) (by omega) (by omega) i1 j1 ((g1.1.2 b hb).trans hA) (by have := g1.2.1; omega) (by have := g1.2.2; omega)))
                  · exact law_tick hG (by omega) hI hj (by omega) rfl (TLK.of (fun n1 h1 g4 m1 kp1 po1 f1 b4 b5 b6 b7 b8 b9 b10 b11 b12 b13 b14 b15 i1 j1 k1 g1 => ih (tn + 1) n1 h1 g4 m1 kp1 po1 f1 b4 b5 b6 b7 b8 b9 b10 b11 b12 b13 b14 b15 (by omega) (by omega) (by omega) i1 j1 ((g1.1.2 b hb).trans hA) (by have := g1.2.1; omega) (by have := g1.2.2; omega)))
                · exact law_move hG (by omega) hI hj (by omega) rfl (TLK.of (fun n1 h1 g4 m1 kp1 po1 f1 b4 b5 b6 b7 b8 b9 b10 b11 b12 b13 b14 b15 i1 j1 k1 g1 => ih (tn + 1) n1 h1 g4 m1 kp1 po1 f1 b4 b5 b6 b7 b8 b9 b10 b11 b12 b13 b14 b15 (by omega) (by omega) (by omega) i1 j1 ((g1.1.2 b hb).trans hA) (by have := g1.2.1; omega) (by have := g1.2.2; omega)))
              · exact law_shut hG (by omega) hI hj (by omega) rfl (TLK.of (fun n1 h1 g4 m1 kp1 po1 f1 b4 b5 b6 b7 b8 b9 b10 b11 b12 b13 b14 b15 i1 j1 k1 g1 => ih (tn + 1) n1 h1 g4 m1 kp1 po1 f1 b4 b5 b6 b7 b8 b9 b10 b11 b12 b13 b14 b15 (by omega) (by omega) (by omega) i1 j1 ((g1.1.2 b hb).trans hA) (by have := g1.2.1; omega) (by have := g1.2.2; omega)))
            · exact law_close hG (by omega) hI hj (by omega) rfl (TLK.of (fun n1 h1 g4 m1 kp1 po1 f1 b4 b5 b6 b7 b8 b9 b10 b11 b12 b13 b14 b15 i1 j1 k1 g1 => ih (tn + 1) n1 h1 g4 m1 kp1 po1 f1 b4 b5 b6 b7 b8 b9 b10 b11 b12 b13 b14 b15 (by omega) (by omega) (by omega) i1 j1 ((g1.1.2 b hb).trans hA) (by have := g1.2.1; omega) (by have := g1.2.2; omega)))
          · exact law_task hG (by omega) hI hj (by omega) rfl (TLK.of (fun n1 h1 g4 m1 kp1 po1 f1 b4 b5 b6 b7 b8 b9 b10 b11 b12 b13 b14 b15 i1 j1 k1 g1 => ih (tn + 1) n1 h1 g4 m1 kp1 po1 f1 b4 b5 b6 b7 b8 b9 b10 b11 b12 b13 b14 b15 (by omega) (by omega) (by omega) i1 j1 ((g1.1.2 b hb).trans hA) (by have := g1.2.1; omega) (by have := g1.2.2; omega)))
        · exact law_take hG (by omega) hI hj (by omega) rfl (TLK.of (fun n1 h1 g4 m1 kp1 po1 f1 b4 b5 b6 b7 b8 b9 b10 b11 b12 b13 b14 b15 i1 j1 k1 g1 => ih (tn + 1) n1 h1 g4 m1 kp1 po1 f1 b4 b5 b6 b7 b8 b9 b10 b11 b12 b13 b14 b15 (by omega) (by omega) (by omega) i1 j1 ((g1.1.2 b hb).trans hA) (by have := g1.2.1; omega) (by have := g1.2.2; omega)))
      · exact law_open hG (by omega) hI hj (by omega) rfl (TLK.of (fun n1 h1 g4 m1 kp1 po1 f1 b4 b5 b6 b7 b8 b9 b10 b11 b12 b13 b14 b15 i1 j1 k1 g1 => ih (tn + 1) n1 h1 g4 m1 kp1 po1 f1 b4 b5 b6 b7 b8 b9 b10 b11 b12 b13 b14 b15 (by omega) (by omega) (by omega) i1 j1 ((g1.1.2 b hb).trans hA) (by have := g1.2.1; omega) (by have := g1.2.2; omega)))
end NH
def h0 (b L base : Nat) (xs : Nat → Int32) : mH := (base, base, 0, fun a => if a = b then some (.inr (.inl (L, xs))) else none)
theorem RO_0 {h : mH} {x y : Nat} (hF : isF h x) (hxy : x + 196 ≤ y ∧ y ≤ h.2.1) : RO x y 1 0 rmm0 rz0 rz0 0 w0 h :=
  ⟨0, rz0, rd0, rz0, ⟨fun _ => none, none, none, fun _ => -11, fun _ => w0, 0, 0, 0, 0, w0, 0, w0, wc0, wC0, wn0, wg0, hF, ⟨CTR_0, fun a o e => (by cases e), Or.inl ⟨rfl, rfl⟩, Or.inl rfl⟩, ⟨⟨fun q => (show InR (-11) ∧ (-11 : Int) ≤ 40 by decide), fun k q => w0_r q⟩, fun a ha => Or.inl ⟨rfl, rd0_e ha⟩⟩, paR_0, hxy⟩, SO_0⟩
theorem JI_0 : JI rmm0 := by
  refine ⟨by unfold jB; decide, fun i hi => ?_, fun t ht => ?_, fun t u _ hu => ?_, fun t ht => ?_, fun c hc h1 => ?_⟩
  · rw [show rmm0 2 = 0 from rfl] at hi; omega
  · rw [rm1] at ht; omega
  · rw [rm1] at hu; omega
  · rw [rm1] at ht; omega
  · rw [rm00] at hc; omega
set_option maxHeartbeats 4000000 in
set_option maxRecDepth 100000 in
theorem law_whole {G : mG} {l : Launch} {b L base : Nat} {xs : Nat → Int32} (hG : G.2.map Prod.snd = mTy) (hb : b < base) (hL : L ≤ 260) : RUN G l 2048 mLaw 0 [some (.ref b), none, none, none, none, none, none, none, none, none, none, none, none, none, none, none] [] (h0 b L base xs) (fun v h' => v = some (.int 1) ∧ h'.2.1 ≤ base + 1200000 ∧ h'.2.2.1 ≤ 5502250) := by
  have hA0 : hGet (h0 b L base xs) b = some (.inr (.inl (L, xs))) := by
    show (if b = b then (some (.inr (.inl (L, xs))) : Option mO) else none) = _
    rw [if_pos rfl]
  refine rg_newC (pc := 0) (z := base) dL_law_0 cL_20 rfl (fun h_0 o_0 s_0 l_0 n_0 k_0 => ?_)
  refine r_dup (pc := 3) dL_law_3 rfl ?_
  have lo0 : h_0.1 ≤ base := Nat.le_of_eq l_0
  refine r_callI0 (pc := 4) dL_law_4 qX10_init rfl kL_89 rfl iX10_init (Nat.le_of_ble_eq_true rfl) (k_X10 _ hG o_0 lo0 n_0) (fun v_4 h_4 q_4 => ?_)
  obtain ⟨rfl, F_4, s_4, l_4, n_4, k_4⟩ := q_4
  refine r_astore_n (pc := 7) dL_law_7 (Nat.le_of_ble_eq_true rfl) (by first | rfl | exact isRefV_rf _) ?_
  dsimp only [lsSt, List.set, mLs, mEnt]
  refine rj_iconst (pc := 8) dL_law_8 ?_
  refine r_istore_n (pc := 9) dL_law_9 (Nat.le_of_ble_eq_true rfl) ?_
  dsimp only [lsSt, List.set, mLs, mEnt]
  refine rj_iconst (pc := 10) dL_law_10 ?_
  refine r_istore_n (pc := 11) dL_law_11 (Nat.le_of_ble_eq_true rfl) ?_
  dsimp only [lsSt, List.set, mLs, mEnt]
  have A_4 : hGet h_4 b = some (.inr (.inl (L, xs))) := (s_4 b hb).trans ((s_0 b (by omega)).trans hA0)
  have k9 : h_0.2.2.1 = 0 + 9 := k_0
  exact law_loop (l := l) hG hb (by omega) 40 0 1 h_4 0 rmm0 rz0 rz0 w0 _ _ _ _ _ _ _ _ _ _ _ _ (by omega) (by omega) (by omega) (RO_0 F_4 ⟨by omega, by omega⟩) JI_0 A_4 (by omega) (by omega)
