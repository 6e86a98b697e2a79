section mg_54
set_option maxHeartbeats 4000000 in
set_option maxRecDepth 100000 in
theorem L_fillS {G : mG} {l : Launch} (d : Nat) (hG : G.2.map Prod.snd = mTy) {w : Nat} {fs : List Value} (hfs : fs[1]? = some (.ref (w + 2))) {Q : Option Value → mH → Prop} : ∀ (k i : Nat) (h : mH), i + k = 60 → hGet h w = some (.inl (9, fs)) → hGet h (w + 2) = some (.inr (.inr (3, 60, (fun q => if q < i then some (w + 107 + q) else none)))) → h.1 ≤ w → h.2.1 = w + 107 + i →
    (∀ h', (∀ b, b < w + 107 + i → b ≠ w + 2 → hGet h' b = hGet h b) → hGet h' (w + 2) = some (.inr (.inr (3, 60, (fun q => if q < 60 then some (w + 107 + q) else none)))) → (∀ q, i ≤ q → q < 60 → hGet h' (w + 107 + q) = some (.inl (4, [.int 0, .int 0, .int 0]))) → h'.1 = h.1 → h'.2.1 = w + 107 + 60 → h'.2.2.1 = h.2.2.1 + 3 * k → RUN G l (d + 2) mX9_init 142 [some (.ref w), some (.int (J (60 : Int)))] [] h' Q) →
    RUN G l (d + 2) mX9_init 114 [some (.ref w), some (.int (J (i : Int)))] [] h Q := by
  intro k
  induction k with
  | zero =>
    intro i h hi hx ha hlo hn K
    obtain rfl : i = 60 := by omega
    refine r_iload_n (pc := 114) dX9_init_114 rfl ?_
    refine r_aload_n (pc := 115) dX9_init_115 rfl rfl ?_
    refine r_getf (pc := 116) dX9_init_116 fX9_19 hx hfs ?_
    refine rj_alenR (pc := 119) dX9_init_119 ha ?_
    refine rj_icmp_ge (pc := 120) (tgt := 142) dX9_init_120 (by decide) ⟨by omega, by omega⟩ ⟨by omega, by omega⟩ (fun c1 => ?_) (fun c1 => absurd (Int.le_refl _) c1)
    exact K h (fun b _ _ => rfl) ha (fun q h1 h2 => by omega) rfl hn (by omega)
  | succ k ih =>
    intro i h hi hx ha hlo hn K
    refine r_iload_n (pc := 114) dX9_init_114 rfl ?_
    refine r_aload_n (pc := 115) dX9_init_115 rfl rfl ?_
    refine r_getf (pc := 116) dX9_init_116 fX9_19 hx hfs ?_
    refine rj_alenR (pc := 119) dX9_init_119 ha ?_
    refine rj_icmp_ge (pc := 120) (tgt := 142) dX9_init_120 (by decide) ⟨by omega, by omega⟩ ⟨by omega, by omega⟩ (fun c1 => ?_) (fun c1 => ?_)
    · exfalso; omega
    refine r_aload_n (pc := 123) dX9_init_123 rfl rfl ?_
    refine r_getf (pc := 124) dX9_init_124 fX9_19 hx hfs ?_
    refine r_iload_n (pc := 127) dX9_init_127 rfl ?_
    refine rg_newC (pc := 128) (z := w + 107 + i) dX9_init_128 cX9_17 hn (fun h1 o1 s1 l1 n1 k1 => ?_)
    refine r_dup (pc := 131) dX9_init_131 rfl ?_
    refine r_callI0 (pc := 132) dX9_init_132 qX4_init rfl kX9_52 rfl iX4_init (Nat.le_of_ble_eq_true rfl) (k_X4 d) (fun v2 h2 q2 => ?_)
    obtain ⟨rfl, rfl⟩ := q2
    refine rg_aast (pc := 135) dX9_init_135 ((s1 (w + 2) (by omega)).trans ha) o1 rfl hG rfl (by omega) ⟨by omega, by omega⟩ (by omega) (by omega) (fun h3 o3 s3 l3 n3 k3 => ?_)
    rw [show ((i : Int)).toNat = i by omega, fill_s] at o3
    refine rj_iinc (pc := 136) dX9_init_136 (Nat.le_of_ble_eq_true rfl) rfl ?_
    dsimp only [lsSt, List.set, mLs, mEnt]
    refine r_goto (pc := 139) (tgt := 114) dX9_init_139 (by decide) ?_
    refine ih (i + 1) h3 (by omega) ((s3 w (by omega)).trans ((s1 w (by omega)).trans hx)) o3 (by omega) (by omega) (fun h' g1 g2 g3 g4 g5 g6 => ?_)
    refine K h' (fun b b1 b2 => (g1 b (by omega) b2).trans ((s3 b b2).trans (s1 b (by omega)))) g2 (fun q q1 q2 => ?_) (by omega) g5 (by omega)
    by_cases e : q = i
    · subst e
      exact (g1 _ (by omega) (by omega)).trans ((s3 _ (by omega)).trans o1)
    · exact g3 q (by omega) q2
end mg_54
