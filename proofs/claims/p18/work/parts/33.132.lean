section mg_54
set_option maxHeartbeats 4000000 in
set_option maxRecDepth 100000 in
theorem L_fillK {G : mG} {l : Launch} (d : Nat) (hG : G.2.map Prod.snd = mTy) {w : Nat} {fs : List Value} (hfs : fs[2]? = some (.ref (w + 3))) {Q : Option Value → mH → Prop} : ∀ (k i : Nat) (h : mH), i + k = 10 → hGet h w = some (.inl (9, fs)) → hGet h (w + 3) = some (.inr (.inr (4, 10, (fun q => if q < i then some (w + 167 + q) else none)))) → h.1 ≤ w → h.2.1 = w + 167 + i →
    (∀ h', (∀ b, b < w + 167 + i → b ≠ w + 3 → hGet h' b = hGet h b) → hGet h' (w + 3) = some (.inr (.inr (4, 10, (fun q => if q < 10 then some (w + 167 + q) else none)))) → (∀ q, i ≤ q → q < 10 → hGet h' (w + 167 + q) = some (.inl (7, [.null, .null, .int 0, .int 0, .int 0, .int 0, .int 0, .int 0, .int 0, .int 0, .int 0]))) → h'.1 = h.1 → h'.2.1 = w + 167 + 10 → h'.2.2.1 = h.2.2.1 + 11 * k → RUN G l (d + 2) mX9_init 172 [some (.ref w), some (.int (J (10 : Int)))] [] h' Q) →
    RUN G l (d + 2) mX9_init 144 [some (.ref w), some (.int (J (i : Int)))] [] h Q := by
  intro k
  induction k with
  | zero =>
    intro i h hi hx ha hlo hn K
    obtain rfl : i = 10 := by omega
    refine r_iload_n (pc := 144) dX9_init_144 rfl ?_
    refine r_aload_n (pc := 145) dX9_init_145 rfl rfl ?_
    refine r_getf (pc := 146) dX9_init_146 fX9_25 hx hfs ?_
    refine rj_alenR (pc := 149) dX9_init_149 ha ?_
    refine rj_icmp_ge (pc := 150) (tgt := 172) dX9_init_150 (by decide) ⟨by omega, by omega⟩ ⟨by omega, by omega⟩ (fun c1 => ?_) (fun c1 => absurd (Int.le_refl _) c1)
    exact K h (fun b _ _ => rfl) ha (fun q h1 h2 => by omega) rfl hn (by omega)
  | succ k ih =>
    intro i h hi hx ha hlo hn K
    refine r_iload_n (pc := 144) dX9_init_144 rfl ?_
    refine r_aload_n (pc := 145) dX9_init_145 rfl rfl ?_
    refine r_getf (pc := 146) dX9_init_146 fX9_25 hx hfs ?_
    refine rj_alenR (pc := 149) dX9_init_149 ha ?_
    refine rj_icmp_ge (pc := 150) (tgt := 172) dX9_init_150 (by decide) ⟨by omega, by omega⟩ ⟨by omega, by omega⟩ (fun c1 => ?_) (fun c1 => ?_)
    · exfalso; omega
    refine r_aload_n (pc := 153) dX9_init_153 rfl rfl ?_
    refine r_getf (pc := 154) dX9_init_154 fX9_25 hx hfs ?_
    refine r_iload_n (pc := 157) dX9_init_157 rfl ?_
    refine rg_newC (pc := 158) (z := w + 167 + i) dX9_init_158 cX9_23 hn (fun h1 o1 s1 l1 n1 k1 => ?_)
    refine r_dup (pc := 161) dX9_init_161 rfl ?_
    refine r_callI0 (pc := 162) dX9_init_162 qX7_init rfl kX9_53 rfl iX7_init (Nat.le_of_ble_eq_true rfl) (k_X7 d) (fun v2 h2 q2 => ?_)
    obtain ⟨rfl, rfl⟩ := q2
    refine rg_aast (pc := 165) dX9_init_165 ((s1 (w + 3) (by omega)).trans ha) o1 rfl hG rfl (by omega) ⟨by omega, by omega⟩ (by omega) (by omega) (fun h3 o3 s3 l3 n3 k3 => ?_)
    rw [show ((i : Int)).toNat = i by omega, fill_s] at o3
    refine rj_iinc (pc := 166) dX9_init_166 (Nat.le_of_ble_eq_true rfl) rfl ?_
    dsimp only [lsSt, List.set, mLs, mEnt]
    refine r_goto (pc := 169) (tgt := 144) dX9_init_169 (by decide) ?_
    refine ih (i + 1) h3 (by omega) ((s3 w (by omega)).trans ((s1 w (by omega)).trans hx)) o3 (by omega) (by omega) (fun h' g1 g2 g3 g4 g5 g6 => ?_)
    refine K h' (fun b b1 b2 => (g1 b (by omega) b2).trans ((s3 b b2).trans (s1 b (by omega)))) g2 (fun q q1 q2 => ?_) (by omega) g5 (by omega)
    by_cases e : q = i
    · subst e
      exact (g1 _ (by omega) (by omega)).trans ((s3 _ (by omega)).trans o1)
    · exact g3 q (by omega) q2
end mg_54
