section mg_96
end mg_96
section mg_97
/-! ===== the class: what a step does ===== -/
abbrev opP (c : Nat → Int) (i : Int) : Prop := inW c 1 60 i ∧ c (304 + 3 * i.toNat) = 0
theorem isR.ofWr {h h' : mH} {r : Nat} {b z : Int} {f c : Nat → Int} {C : Nat → Nat → Int} {nm : Nat → Int64} {g : Nat → Option Nat} {c' : Nat → Int} {C' : Nat → Nat → Int} {nm' : Nat → Int64} {g' : Nat → Option Nat} (k : isR h r b z f c C nm g) (S : Same (wBlk (rA r 1)) h h') (k2 : isW h' (rA r 1) c' C' nm' g') : isR h' r b z f c' C' nm' g' ∧ Same (rBlk r) h h' := ⟨k.ofW S k2, S.mono (fun q hq => w_rBlk hq)⟩
def btG (g : Nat → Option Nat) (t : Nat) : Nat → Option Nat := updO g (2 * t + 1) (g (2 * t))
end mg_97
