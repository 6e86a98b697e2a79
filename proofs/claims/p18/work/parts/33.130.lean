section mg_54
set_option maxHeartbeats 4000000 in
set_option maxRecDepth 100000 in
theorem L_fillT {G : mG} {l : Launch} (d : Nat) (hG : G.2.map Prod.snd = mTy) {w : Nat} {fs : List Value} (hfs : fs[0]? = some (.ref (w + 1))) {Q : Option Value → mH → Prop} : ∀ (k i : Nat) (h : mH), i + k = 90 → hGet h w = some (.inl (9, fs)) → hGet h (w + 1) = some (.inr (.inr (2, 90, (fun q => if q < i then some (w + 17 + q) else none)))) → h.1 ≤ w → h.2.1 = w + 17 + i →
    (∀ h', (∀ b, b < w + 17 + i → b ≠ w + 1 → hGet h' b = hGet h b) → hGet h' (w + 1) = some (.inr (.inr (2, 90, (fun q => if q < 90 then some (w + 17 + q) else none)))) → (∀ q, i ≤ q → q < 90 → hGet h' (w + 17 + q) = some (.inl (8, [.long 0, .null, .null, .int 0, .int 0, .int 0]))) → h'.1 = h.1 → h'.2.1 = w + 17 + 90 → h'.2.2.1 = h.2.2.1 + 6 * k → RUN G l (d + 2) mX9_init 112 [some (.ref w), some (.int (J (90 : Int)))] [] h' Q) →
    RUN G l (d + 2) mX9_init 84 [some (.ref w), some (.int (J (i : Int)))] [] h Q := by
  intro k
  induction k with
  | zero =>
    intro i h hi hx ha hlo hn K
    obtain rfl : i = 90 := by omega
    refine r_iload_n (pc := 84) dX9_init_84 rfl ?_
    refine r_aload_n (pc := 85) dX9_init_85 rfl rfl ?_
    refine r_getf (pc := 86) dX9_init_86 fX9_11 hx hfs ?_
    refine rj_alenR (pc := 89) dX9_init_89 ha ?_
    refine rj_icmp_ge (pc := 90) (tgt := 112) dX9_init_90 (by decide) ⟨by omega, by omega⟩ ⟨by omega, by omega⟩ (fun c1 => ?_) (fun c1 => absurd (Int.le_refl _) c1)
    exact K h (fun b _ _ => rfl) ha (fun q h1 h2 => by omega) rfl hn (by omega)
  | succ k ih =>
    intro i h hi hx ha hlo hn K
    refine r_iload_n (pc := 84) dX9_init_84 rfl ?_
    refine r_aload_n (pc := 85) dX9_init_85 rfl rfl ?_
    refine r_getf (pc := 86) dX9_init_86 fX9_11 hx hfs ?_
    refine rj_alenR (pc := 89) dX9_init_89 ha ?_
    refine rj_icmp_ge (pc := 90) (tgt := 112) dX9_init_90 (by decide) ⟨by omega, by omega⟩ ⟨by omega, by omega⟩ (fun c1 => ?_) (fun c1 => ?_)
    · exfalso; omega
    refine r_aload_n (pc := 93) dX9_init_93 rfl rfl ?_
    refine r_getf (pc := 94) dX9_init_94 fX9_11 hx hfs ?_
    refine r_iload_n (pc := 97) dX9_init_97 rfl ?_
    refine rg_newC (pc := 98) (z := w + 17 + i) dX9_init_98 cX9_9 hn (fun h1 o1 s1 l1 n1 k1 => ?_)
    refine r_dup (pc := 101) dX9_init_101 rfl ?_
    refine r_callI0 (pc := 102) dX9_init_102 qX8_init rfl kX9_51 rfl iX8_init (Nat.le_of_ble_eq_true rfl) (k_X8 d) (fun v2 h2 q2 => ?_)
    obtain ⟨rfl, rfl⟩ := q2
    refine rg_aast (pc := 105) dX9_init_105 ((s1 (w + 1) (by omega)).trans ha) o1 rfl hG rfl (by omega) ⟨by omega, by omega⟩ (by omega) (by omega) (fun h3 o3 s3 l3 n3 k3 => ?_)
    rw [show ((i : Int)).toNat = i by omega, fill_s] at o3
    refine rj_iinc (pc := 106) dX9_init_106 (Nat.le_of_ble_eq_true rfl) rfl ?_
    dsimp only [lsSt, List.set, mLs, mEnt]
    refine r_goto (pc := 109) (tgt := 84) dX9_init_109 (by decide) ?_
    refine ih (i + 1) h3 (by omega) ((s3 w (by omega)).trans ((s1 w (by omega)).trans hx)) o3 (by omega) (by omega) (fun h' g1 g2 g3 g4 g5 g6 => ?_)
    refine K h' (fun b b1 b2 => (g1 b (by omega) b2).trans ((s3 b b2).trans (s1 b (by omega)))) g2 (fun q q1 q2 => ?_) (by omega) g5 (by omega)
    by_cases e : q = i
    · subst e
      exact (g1 _ (by omega) (by omega)).trans ((s3 _ (by omega)).trans o1)
    · exact g3 q (by omega) q2
end mg_54
