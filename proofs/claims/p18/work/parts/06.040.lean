section mg_24
end mg_24
section mg_25
/-! ===== contracts of the reference: steps ===== -/
def andR (r : Bool × PS) (f : PS → Bool × PS) : Bool × PS := if r.1 = true then f r.2 else r
def nR (sr : Nat → Int) (len : Int) (n : Nat) (l m : Int) (q : PS) : Bool × PS := (decide (numberB sr len n l m q), numberF sr len n l m q)
def gR (sr : Nat → Int) (len : Int) (c : Int) (q : PS) : Bool × PS := (decide (hereF sr len q.1 = c), signF sr len c q)
def vR (sr : Nat → Int) (len : Int) (q : PS) : Bool × PS := (decide (signedB sr len q), signedF sr len q)
def aR (sr : Nat → Int) (len : Int) (q : PS) : Bool × PS := (decide (nameB sr len q), nameF sr len q)
def takeG (sr : Nat → Int) (len : Int) (steps : PS → Bool × PS) (w : Int) (q : PS) : Bool × PS :=
  andR (aR sr len q) (fun q1 => if hereF sr len q1.1 = 123 then (if 2 < w then (false, failF q1.1 q1) else andR (steps (advF q1)) (gR sr len 125)) else (true, q1))
abbrev stepOk (c : Int) (it bh : Bool) (q : PS) : Prop := c = 43 ∨ c = 33 ∨ c = 97 ∨ c = 120 ∨ c = 109 ∨ c = 107 ∨ c = 46 ∨ (c = 63 ∧ bh = false) ∨ ((c = 40 ∨ (c = 41 ∧ 0 < q.2.2.2.2)) ∧ it = true)
def openF (c : Int) (q : PS) : PS := (q.1, q.2.1, q.2.2.1, q.2.2.2.1, q.2.2.2.2 + (if c = 40 then 1 else if c = 41 then -1 else 0))
def stepG (sr : Nat → Int) (len : Int) (take inner : PS → Bool × PS) (c : Int) (q : PS) : Bool × PS :=
  if c = 43 then andR (andR (nR sr len 1 0 7 q) (gR sr len 61)) (vR sr len)
  else if c = 33 then nR sr len 2 1 99 q
  else if c = 97 then take q
  else if c = 120 then aR sr len q
  else if c = 109 then andR (andR (aR sr len q) (gR sr len 62)) (nR sr len 2 0 99)
  else if c = 107 then nR sr len 1 0 9 q
  else if c = 63 then andR (andR (andR (andR (nR sr len 1 0 7 q) (gR sr len 60)) (vR sr len)) (gR sr len 58)) inner
  else (true, openF c q)
theorem andR_t {r : Bool × PS} {f : PS → Bool × PS} (h : r.1 = true) : andR r f = f r.2 := by simp [andR, h]
theorem andR_f {r : Bool × PS} {f : PS → Bool × PS} (h : ¬ r.1 = true) : andR r f = r := by simp [andR, h]
set_option maxHeartbeats 4000000 in
set_option maxRecDepth 100000 in
theorem l_number {G : mG} {l : Launch} (d : Nat) {h : mH} {x s : Nat} {f4 f6 f9 f14 f16 f18 : Int} {q : PS} {m kp was pool tape pln pap rwd rw sr : Nat → Int} (hB : isM h x (mFs x f4 f6 q.1 f9 q.2.1 q.2.2.1 q.2.2.2.1 q.2.2.2.2 f14 f16 f18 s) m kp was pool tape pln pap rwd rw) (hT : txOk s sr pool tape f9) (hq : psOk f9 q) {F : Nat} (hF : F ≤ 5) {lo hi : Int} (hlo : InR lo) (hhi : InR hi) : RUNM G l (d + 3) mX11_isNumber [.ref x, .int (J (F : Int)), .int (J lo), .int (J hi)] h (fun v h' => v = some (.int (J (bz (nR sr f9 F lo hi q).1))) ∧ isM h' x (mFs x f4 f6 ((nR sr f9 F lo hi q).2).1 f9 ((nR sr f9 F lo hi q).2).2.1 ((nR sr f9 F lo hi q).2).2.2.1 ((nR sr f9 F lo hi q).2).2.2.2.1 ((nR sr f9 F lo hi q).2).2.2.2.2 f14 f16 f18 s) m kp was pool tape pln pap rwd rw ∧ Same (mBlk x) h h') := (m_isNumber (F := F) d hB hT hq hF hlo hhi).mono (fun v h' g => ⟨by rw [g.1]; unfold nR; rw [bz_d], g.2.1, g.2.2⟩)
set_option maxHeartbeats 4000000 in
set_option maxRecDepth 100000 in
theorem l_sign {G : mG} {l : Launch} (d : Nat) {h : mH} {x s : Nat} {f4 f6 f9 f14 f16 f18 : Int} {q : PS} {m kp was pool tape pln pap rwd rw sr : Nat → Int} (hB : isM h x (mFs x f4 f6 q.1 f9 q.2.1 q.2.2.1 q.2.2.2.1 q.2.2.2.2 f14 f16 f18 s) m kp was pool tape pln pap rwd rw) (hT : txOk s sr pool tape f9) (hq : psOk f9 q) {c : Int} (hc : InR c) : RUNM G l (d + 1) mX11_isSign [.ref x, .int (J c)] h (fun v h' => v = some (.int (J (bz (gR sr f9 c q).1))) ∧ isM h' x (mFs x f4 f6 ((gR sr f9 c q).2).1 f9 ((gR sr f9 c q).2).2.1 ((gR sr f9 c q).2).2.2.1 ((gR sr f9 c q).2).2.2.2.1 ((gR sr f9 c q).2).2.2.2.2 f14 f16 f18 s) m kp was pool tape pln pap rwd rw ∧ Same (mBlk x) h h') := (m_isSign d hB hT hq hc).mono (fun v h' g => ⟨by rw [g.1]; unfold gR; rw [bz_d], g.2.1, g.2.2⟩)
set_option maxHeartbeats 4000000 in
set_option maxRecDepth 100000 in
theorem l_signed {G : mG} {l : Launch} (d : Nat) {h : mH} {x s : Nat} {f4 f6 f9 f14 f16 f18 : Int} {q : PS} {m kp was pool tape pln pap rwd rw sr : Nat → Int} (hB : isM h x (mFs x f4 f6 q.1 f9 q.2.1 q.2.2.1 q.2.2.2.1 q.2.2.2.2 f14 f16 f18 s) m kp was pool tape pln pap rwd rw) (hT : txOk s sr pool tape f9) (hq : psOk f9 q) : RUNM G l (d + 4) mX11_isSigned [.ref x] h (fun v h' => v = some (.int (J (bz (vR sr f9 q).1))) ∧ isM h' x (mFs x f4 f6 ((vR sr f9 q).2).1 f9 ((vR sr f9 q).2).2.1 ((vR sr f9 q).2).2.2.1 ((vR sr f9 q).2).2.2.2.1 ((vR sr f9 q).2).2.2.2.2 f14 f16 f18 s) m kp was pool tape pln pap rwd rw ∧ Same (mBlk x) h h') := (m_isSigned d hB hT hq).mono (fun v h' g => ⟨by rw [g.1]; unfold vR; rw [bz_d], g.2.1, g.2.2⟩)
set_option maxHeartbeats 4000000 in
set_option maxRecDepth 100000 in
theorem l_name {G : mG} {l : Launch} (d : Nat) {h : mH} {x s : Nat} {f4 f6 f9 f14 f16 f18 : Int} {q : PS} {m kp was pool tape pln pap rwd rw sr : Nat → Int} (hB : isM h x (mFs x f4 f6 q.1 f9 q.2.1 q.2.2.1 q.2.2.2.1 q.2.2.2.2 f14 f16 f18 s) m kp was pool tape pln pap rwd rw) (hT : txOk s sr pool tape f9) (hq : psOk f9 q) : RUNM G l (d + 2) mX11_isName [.ref x] h (fun v h' => v = some (.int (J (bz (aR sr f9 q).1))) ∧ isM h' x (mFs x f4 f6 ((aR sr f9 q).2).1 f9 ((aR sr f9 q).2).2.1 ((aR sr f9 q).2).2.2.1 ((aR sr f9 q).2).2.2.2.1 ((aR sr f9 q).2).2.2.2.2 f14 f16 f18 s) m kp was pool tape pln pap rwd rw ∧ Same (mBlk x) h h') := (m_isName d hB hT hq).mono (fun v h' g => ⟨by rw [g.1]; unfold aR; rw [bz_d], g.2.1, g.2.2⟩)
theorem nR_ok {sr : Nat → Int} {len : Int} {n : Nat} {l m : Int} {q : PS} (hn : n ≤ 5) (hq : psOk len q) : psOk len (nR sr len n l m q).2 := number_ok hn hq
theorem gR_ok {sr : Nat → Int} {len c : Int} {q : PS} (hc : c ≠ -1) (hq : psOk len q) : psOk len (gR sr len c q).2 := sign_ok hq hc
theorem vR_ok {sr : Nat → Int} {len : Int} {q : PS} (hq : psOk len q) : psOk len (vR sr len q).2 := signed_ok hq
theorem aR_ok {sr : Nat → Int} {len : Int} {q : PS} (hq : psOk len q) : psOk len (aR sr len q).2 := name_ok hq
end mg_25
