section mg_95
end mg_95
section mg_96
/-! ===== the class: a world becomes another: its rows ===== -/
/-- all six rows' sizes -/
def szW (c : Nat → Int) (sz : Nat → Nat) : Prop := ∀ j, j < 6 → c (8 + j) = (sz j : Int) ∧ sz j ≤ iRm j
set_option maxHeartbeats 4000000 in
set_option maxRecDepth 100000 in
theorem cb_Ints {G : mG} {l : Launch} (d : Nat) {h : mH} {w : Nat} {c : Nat → Int} {C : Nat → Nat → Int} {nm : Nat → Int64} {g : Nat → Option Nat} (hW : isW h w c C nm g) {w2 : Nat} {c2 : Nat → Int} {C2 : Nat → Nat → Int} {nm2 : Nat → Int64} {g2 : Nat → Option Nat} (hW2 : isW h w2 c2 C2 nm2 g2) (hdis : w + 177 ≤ w2 ∨ w2 + 177 ≤ w) {sz : Nat → Nat} (hsz : szW c2 sz) {j : Nat} (hj : j < 6) : RUNM G l d mX1_become [.ref (wA w (iAd j)), .ref (wA w2 (iAd j))] h (fun v h' => v = none ∧ isW h' w (updI c (8 + j) (c2 (8 + j))) (updC C j (cpyF (sz j) (C2 j) (C j))) nm g ∧ Same (wBlk w) h h') := by
  have y2 := hW2.gI hj
  have z := hsz j hj
  rw [z.1] at y2
  have rm : iRm j ≤ 1000 := by
    have : j = 0 ∨ j = 1 ∨ j = 2 ∨ j = 3 ∨ j = 4 ∨ j = 5 := by omega
    rcases this with e | e | e | e | e | e <;> subst e <;> decide
  have ia : iAd j ≤ 170 := by
    have : j = 0 ∨ j = 1 ∨ j = 2 ∨ j = 3 ∨ j = 4 ∨ j = 5 := by omega
    rcases this with e | e | e | e | e | e <;> subst e <;> decide
  refine (ci_become (G := G) (l := l) d rm rm z.2 z.2 (by unfold wA; omega) (hW.gI hj) y2).mono (fun v h' q => ⟨q.1, ?_, q.2.2.mono (fun b hb => iBlk_wBlk hb)⟩)
  rw [z.1]
  exact hW.ofI hj q.2.2 q.2.1
noncomputable def fbC (c c2 : Nat → Int) : Nat → Int := updI (updI (updI (updI c (8 + 3) (c2 (8 + 3))) (8 + 4) (c2 (8 + 4))) (8 + 5) (c2 (8 + 5))) 4 (c2 4)
def ibD (C C2 : Nat → Nat → Int) (sz : Nat → Nat) (j : Nat) : Nat → Nat → Int := updC C j (cpyF (sz j) (C2 j) (C j))
end mg_96
