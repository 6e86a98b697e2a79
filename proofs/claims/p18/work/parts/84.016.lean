section mg_85
def hnL (c : Nat → Int) (nm : Nat → Int64) (y : Int64) : Nat → Nat → Int
  | 0, _ => -5
  | n + 1, t => if c (32 + 3 * t) = 0 ∧ nm t = y then (t : Int) else hnL c nm y n (t + 1)
def lcV (x y : Int64) : Int := if x = y then 0 else if x.toInt < y.toInt then -1 else 1
theorem lcV_r {x y : Int64} : InR (lcV x y) := by unfold lcV; split <;> (try split) <;> decide
theorem lcV_0 {x y : Int64} : lcV x y = 0 ↔ x = y := by
  unfold lcV
  by_cases e : x = y
  · rw [if_pos e]; exact ⟨fun _ => e, fun _ => rfl⟩
  · rw [if_neg e]
    constructor
    · intro z; split at z <;> exact absurd z (by decide)
    · intro z; exact absurd z e
theorem lcV_n {x y : Int64} : lcV x y < 0 ↔ x.toInt < y.toInt := by
  unfold lcV
  by_cases e : x = y
  · subst e; rw [if_pos rfl]; omega
  · rw [if_neg e]
    by_cases l : x.toInt < y.toInt
    · rw [if_pos l]; exact ⟨fun _ => l, fun _ => by decide⟩
    · rw [if_neg l]; exact ⟨fun z => absurd z (by decide), fun z => absurd z l⟩
theorem lg_cmp_e (x y : Int64) : lg_cmp x y = J (lcV x y) := by
  unfold lg_cmp lcV
  by_cases e : x = y
  · subst e
    rw [if_neg (by rw [gt_iff_lt, Int64.lt_iff_toInt_lt]; omega), if_pos rfl, if_pos rfl]; exact J_0
  · by_cases l : x.toInt < y.toInt
    · rw [if_neg (by rw [gt_iff_lt, Int64.lt_iff_toInt_lt]; omega), if_neg e, if_neg e, if_pos l, J_def]; decide
    · have : y.toInt < x.toInt := by
        have ne : ¬ x.toInt = y.toInt := fun z => e (Int64.toInt_inj.mp z)
        omega
      rw [if_pos (by rw [gt_iff_lt, Int64.lt_iff_toInt_lt]; exact this), if_neg e, if_neg l]; exact J_1
theorem rj_lcmpE {G : mG} {l : Launch} {d : Nat} {M : mM} {pc : Nat} {ls : List (Option Value)} {st : List Value} {h : mH} {Q : Option Value → mH → Prop} {x y : Int64} (hdg : decode M.2.1 pc = .ok (.lcmp, 1)) (K : RUN G l d M (pc + 1) ls (.int (J (lcV x y)) :: st) h Q) : RUN G l d M pc ls (.long y :: .long x :: st) h Q :=
  r_lcmp hdg (by rw [lg_cmp_e]; exact K)
end mg_85
