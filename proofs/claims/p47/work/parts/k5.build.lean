/-! ===== a builder at work in the law: one rule a step ===== -/
def BLD (k s : Nat) (h0 h : mH) (a : Nat) (t : List Int) : Prop := ∃ (b : Nat) (bs : List Int), isSB h a b bs t ∧ (h0.2.1 ≤ a ∧ h0.2.1 ≤ b) ∧ bs.length ≤ 202 ∧ Old (fun _ => False) h0 h ∧ h.2.1 ≤ h0.2.1 + k ∧ h0.2.2.1 ≤ h.2.2.1 ∧ h.2.2.1 ≤ h0.2.2.1 + s
/-- new objects alone, so many, of so many slots -/
def NEWS (k s : Nat) (h h' : mH) : Prop := Old (fun _ => False) h h' ∧ h'.2.1 ≤ h.2.1 + k ∧ h.2.2.1 ≤ h'.2.2.1 ∧ h'.2.2.1 ≤ h.2.2.1 + s
theorem NEWS.tr {k s k' s' : Nat} {h h1 h2 : mH} (a : NEWS k s h h1) (b : NEWS k' s' h1 h2) : NEWS (k + k') (s + s') h h2 := by
  obtain ⟨a1, a2, a3, a4⟩ := a
  obtain ⟨b1, b2, b3, b4⟩ := b
  exact ⟨a1.tr b1, by omega, by omega, by omega⟩
theorem NEWS.up {k s k' s' : Nat} {h h1 : mH} (a : NEWS k s h h1) (e : k ≤ k') (f : s ≤ s') : NEWS k' s' h h1 := ⟨a.1, by have := a.2.1; omega, a.2.2.1, by have := a.2.2.2; omega⟩
theorem NEWS.rf {h : mH} : NEWS 0 0 h h := ⟨Old.rf, by omega, Nat.le_refl _, by omega⟩
/-- a String that was made behind a heap -/
def isNew (h0 h : mH) (p w : Nat) (u : List Int) : Prop := isOwn h p w u ∧ h0.2.1 ≤ p ∧ h0.2.1 ≤ w
theorem isNew.s {G : mG} {h0 h : mH} {p w : Nat} {u : List Int} (k : isNew h0 h p w u) : isS G h p w u := Or.inr k.1
section K5
variable {G : mG} {l : Launch} {d : Nat} {M : mM} {pc : Nat} {ls : List (Option Value)} {st : List Value} {h h0 hp : mH} {Q : Option Value → mH → Prop} {k s k' s' a : Nat} {t u : List Int}
theorem BLD.sb (hB : BLD k s h0 h a t) : ∃ fs, hGet h a = some (.inl (12, fs)) := by
  obtain ⟨b, bs, ⟨⟨ml, z⟩, -⟩, -⟩ := hB
  exact ⟨_, z⟩
theorem BLD.kp (hB : BLD k s h0 hp a t) (o : NEWS k' s' hp h) : BLD (k + k') (s + s') h0 h a t := by
  obtain ⟨b, bs, ⟨⟨ml, z1⟩, z2, z3, z4⟩, q1, q2, q3, q4, q5, q6⟩ := hB
  obtain ⟨o1, o2, o3, o4⟩ := o
  have e1 := o1.1
  have e2 := o1.2.1
  exact ⟨b, bs, ⟨⟨ml, (o1.2.2 a (by omega) (fun z => z)).trans z1⟩, (o1.2.2 b (by omega) (fun z => z)).trans z2, z3, by omega⟩, q1, q2, q3.tr o1, by omega, by omega, by omega⟩
theorem bl_new {i1 i2 : Nat} (hG : G.2.map Prod.snd = mTy) (d0 : decode M.2.1 pc = .ok (.new i1, 3)) (d1 : decode M.2.1 (pc + 3) = .ok (.dup, 1)) (d2 : decode M.2.1 (pc + 4) = .ok (.invokespecial i2, 3)) (hc : mNewC M.1.cls i1 12 4 [.null, .int 0, .int 0, .int 0]) (hk : mLk M.1.cls i2 mJ4_init_da8c8) (hlo : h.1 ≤ h.2.1) (hW : (st.map fun v => v.category).sum ≤ 6)
    (K : ∀ (h1 : mH) (a : Nat), BLD 2 20 h h1 a [] → RUN G l (d + 3) M (pc + 7) ls (.ref a :: st) h1 Q) : RUN G l (d + 3) M pc ls st h Q := by
  refine r_newC d0 hc ?_
  refine r_dup d1 rfl ?_
  refine r_callI0 d2 qJ4_init_da8c8 rfl hk rfl iJ4_init_da8c8 (by show 1 + (st.map fun v => v.category).sum ≤ 8; omega) (jk_sbInit (d) hG hGet_new_self ⟨hlo, Nat.lt_succ_self _⟩) (fun v h1 q => ?_)
  obtain ⟨rfl, q1, q2, q3, q4⟩ := q
  have q3' : h1.2.1 = h.2.1 + 1 + 1 := q3
  have q4' : h1.2.2.1 = h.2.2.1 + 4 + 16 := q4
  refine K h1 h.2.1 ⟨_, _, q1, ⟨Nat.le_refl _, Nat.le_succ _⟩, by rw [List.length_replicate]; omega, ⟨q2.1, by omega, fun b hb _ => (q2.2.2 b (by show b < h.2.1 + 1; omega) (by omega)).trans (hGet_new_ne (by omega) rfl)⟩, by omega, by omega, by omega⟩
theorem BLD.app {h1 : mH} {b b' : Nat} {bs bs' : List Int} (hB : isSB h a b bs t) (q1 : h0.2.1 ≤ a ∧ h0.2.1 ≤ b) (q3 : Old (fun _ => False) h0 h) (q4 : h.2.1 ≤ h0.2.1 + k) (q5 : h0.2.2.1 ≤ h.2.2.1) (q6 : h.2.2.1 ≤ h0.2.2.1 + s) (r1 : isSB h1 a b' bs' u) (r2 : b' = b ∨ h.2.1 ≤ b') (r3 : bs'.length ≤ 202) (r4 : SBs a b 1 202 h h1) : BLD (k + 1) (s + 202) h0 h1 a u := by
  obtain ⟨o1, o2, o3, o4⟩ := r4
  have e2 := q3.2.1
  refine ⟨b', bs', r1, ⟨q1.1, by omega⟩, r3, ⟨o1.1.trans q3.1, by have := o1.2.1; omega, fun c hc _ => (o1.2.2 c (by omega) (by omega)).trans (q3.2.2 c hc (fun z => z))⟩, by omega, by omega, by omega⟩
theorem bl_S {i : Nat} {p w : Nat} (hG : G.2.map Prod.snd = mTy) (hd : decode M.2.1 pc = .ok (.invokevirtual i, 3)) (hk : mLk M.1.cls i mJ4_append_15ec4) (hB : BLD k s h0 h a t) (hS : isCon G p w u) (hm : t.length + u.length ≤ 100) (hW : (st.map fun v => v.category).sum ≤ 6)
    (K : ∀ (h1 : mH), BLD (k + 1) (s + 202) h0 h1 a (t ++ u) → RUN G l (d + 6) M (pc + 3) ls (.ref a :: st) h1 Q) : RUN G l (d + 6) M pc ls (.ref p :: .ref a :: st) h Q := by
  obtain ⟨fs, hsb⟩ := hB.sb
  obtain ⟨b, bs, z, q1, q2, q3, q4, q5, q6⟩ := hB
  have z4 := z.2.2.2
  refine r_callVx (C := "java/lang/StringBuilder") hd qJ4_append_15ec4 hk ⟨vJ4_append_15ec4.1, vJ4_append_15ec4.2⟩ (As := [.ref p]) rfl (fun hK hH => sb_recv hsb hK hH) rfl (by omega) (jk_appS d hG z (Or.inl hS) (by omega) hm q2) (fun v h1 q => ?_)
  obtain ⟨rfl, b', bs', r1, r2, r3, r4⟩ := q
  exact K h1 (BLD.app z q1 q3 q4 q5 q6 r1 r2 r3 r4)
theorem bl_N {i : Nat} {p w : Nat} (hG : G.2.map Prod.snd = mTy) (hd : decode M.2.1 pc = .ok (.invokevirtual i, 3)) (hk : mLk M.1.cls i mJ4_append_15ec4) (hB : BLD k s h0 hp a t) (o : NEWS k' s' hp h) (hS : isNew hp h p w u) (hm : t.length + u.length ≤ 100) (hW : (st.map fun v => v.category).sum ≤ 6)
    (K : ∀ (h1 : mH), BLD (k + k' + 1) (s + s' + 202) h0 h1 a (t ++ u) → RUN G l (d + 6) M (pc + 3) ls (.ref a :: st) h1 Q) : RUN G l (d + 6) M pc ls (.ref p :: .ref a :: st) h Q := by
  have hap : ∃ b bs, isSB hp a b bs t := by obtain ⟨b, bs, z, -⟩ := hB; exact ⟨b, bs, z⟩
  have hB2 := hB.kp o
  obtain ⟨fs, hsb⟩ := hB2.sb
  obtain ⟨b, bs, z, q1, q2, q3, q4, q5, q6⟩ := id hB
  obtain ⟨⟨ml, z1⟩, z2, z3, z4⟩ := z
  have e1 := o.1.1
  have e2 := o.1.2.1
  have zz : isSB h a b bs t := ⟨⟨ml, (o.1.2.2 a (by omega) (fun z => z)).trans z1⟩, (o.1.2.2 b (by omega) (fun z => z)).trans z2, z3, by omega⟩
  have o2 := o.2.1
  have o3 := o.2.2.1
  have o4 := o.2.2.2
  obtain ⟨n1, n2, n3⟩ := hS
  refine r_callVx (C := "java/lang/StringBuilder") hd qJ4_append_15ec4 hk ⟨vJ4_append_15ec4.1, vJ4_append_15ec4.2⟩ (As := [.ref p]) rfl (fun hK hH => sb_recv hsb hK hH) rfl (by omega) (jk_appS d hG zz (Or.inr ⟨n1, ⟨by omega, by omega⟩, ⟨by omega, by omega⟩⟩) (by omega) hm q2) (fun v h1 q => ?_)
  obtain ⟨rfl, b', bs', r1, r2, r3, r4⟩ := q
  exact K h1 (BLD.app (k := k + k') (s := s + s') zz q1 (q3.tr o.1) (by omega) (by omega) (by omega) r1 r2 r3 r4)
theorem bl_C {i : Nat} {c : Int} (hG : G.2.map Prod.snd = mTy) (hd : decode M.2.1 pc = .ok (.invokevirtual i, 3)) (hk : mLk M.1.cls i mJ4_append_cf468) (hB : BLD k s h0 h a t) (hc : 0 ≤ c ∧ c ≤ 127) (hm : t.length + 1 ≤ 100) (hW : (st.map fun v => v.category).sum ≤ 6)
    (K : ∀ (h1 : mH), BLD (k + 1) (s + 202) h0 h1 a (t ++ [c]) → RUN G l (d + 6) M (pc + 3) ls (.ref a :: st) h1 Q) : RUN G l (d + 6) M pc ls (.int (J c) :: .ref a :: st) h Q := by
  obtain ⟨fs, hsb⟩ := hB.sb
  obtain ⟨b, bs, z, q1, q2, q3, q4, q5, q6⟩ := hB
  have z4 := z.2.2.2
  refine r_callVx (C := "java/lang/StringBuilder") hd qJ4_append_cf468 hk ⟨vJ4_append_cf468.1, vJ4_append_cf468.2⟩ (As := [.int (J c)]) rfl (fun hK hH => sb_recv hsb hK hH) rfl (by omega) (jk_appC d hG z hc (by omega) hm q2) (fun v h1 q => ?_)
  obtain ⟨rfl, b', bs', r1, r2, r3, r4⟩ := q
  exact K h1 (BLD.app z q1 q3 q4 q5 q6 r1 r2 r3 r4)
theorem bl_D {i : Nat} {c : Int} (hG : G.2.map Prod.snd = mTy) (hd : decode M.2.1 pc = .ok (.invokevirtual i, 3)) (hk : mLk M.1.cls i mJ4_append_bf812) (hB : BLD k s h0 h a t) (hc : 0 ≤ c ∧ c < 100) (hm : t.length + 2 ≤ 100) (hW : (st.map fun v => v.category).sum ≤ 6)
    (K : ∀ (h1 : mH), BLD (k + 1) (s + 202) h0 h1 a (t ++ dg c) → RUN G l (d + 6) M (pc + 3) ls (.ref a :: st) h1 Q) : RUN G l (d + 6) M pc ls (.int (J c) :: .ref a :: st) h Q := by
  obtain ⟨fs, hsb⟩ := hB.sb
  obtain ⟨b, bs, z, q1, q2, q3, q4, q5, q6⟩ := hB
  have z4 := z.2.2.2
  have hdl : dgW c ≤ 2 := by unfold dgW; split <;> omega
  refine r_callVx (C := "java/lang/StringBuilder") hd qJ4_append_bf812 hk ⟨vJ4_append_bf812.1, vJ4_append_bf812.2⟩ (As := [.int (J c)]) rfl (fun hK hH => sb_recv hsb hK hH) rfl (by omega) (jk_appD d hG z hc (by omega) (by omega) q2) (fun v h1 q => ?_)
  obtain ⟨rfl, b', bs', r1, r2, r3, r4⟩ := q
  exact K h1 (BLD.app z q1 q3 q4 q5 q6 r1 r2 r3 r4)
theorem bl_end {i : Nat} (hG : G.2.map Prod.snd = mTy) (hd : decode M.2.1 pc = .ok (.invokevirtual i, 3)) (hk : mLk M.1.cls i mJ4_toString_0e30d) (hB : BLD k s h0 h a t) (hW : (st.map fun v => v.category).sum ≤ 6)
    (K : ∀ (h1 : mH) (p w : Nat), isNew h0 h1 p w t → NEWS (k + 2) (s + 210) h0 h1 → RUN G l (d + 6) M (pc + 3) ls (.ref p :: st) h1 Q) : RUN G l (d + 6) M pc ls (.ref a :: st) h Q := by
  obtain ⟨fs, hsb⟩ := hB.sb
  obtain ⟨b, bs, z, q1, q2, q3, q4, q5, q6⟩ := hB
  have z4 := z.2.2.2
  have e2 := q3.2.1
  refine r_callVx (C := "java/lang/StringBuilder") hd qJ4_toString_0e30d hk ⟨vJ4_toString_0e30d.1, vJ4_toString_0e30d.2⟩ (As := []) rfl (fun hK hH => sb_recv hsb hK hH) rfl (by omega) (jk_toString d hG z q2) (fun v h1 q => ?_)
  obtain ⟨rfl, r1, r2, r3, r4, r5⟩ := q
  exact K h1 h.2.1 (h.2.1 + 1) ⟨r1, by omega, by omega⟩ ⟨q3.tr r2, by omega, by omega, by omega⟩
theorem con_of (G : mG) {k : Nat} {u : List Int} (hk : k < 16) (e : (kByt k) = u.map Int32.ofInt) : isCon G (kkA G k) (kkV G k) u := ⟨k, hk, rfl, rfl, by rw [e, bJ, show (J : Int → Int32) = Int32.ofInt from funext J_def]⟩
end K5
theorem and_J (x : Int32) {m : Int} (hm : 0 ≤ m ∧ m < 2147483648) : ∃ e : Int, x &&& J m = J e ∧ 0 ≤ e ∧ e ≤ m := by
  refine ⟨(x &&& J m).toInt, J_of _, ?_⟩
  have h2 : (x &&& J m).toBitVec.toNat ≤ (J m).toBitVec.toNat := by rw [Int32.toBitVec_and, BitVec.toNat_and]; exact Nat.and_le_right
  have h1 : (J m).toBitVec.toInt = m := J_toInt ⟨by omega, hm.2⟩
  have h3 := BitVec.toInt_eq_toNat_cond (J m).toBitVec
  have h4 := BitVec.toInt_eq_toNat_cond (x &&& J m).toBitVec
  have h5 : (x &&& J m).toInt = (x &&& J m).toBitVec.toInt := rfl
  have h6 := (J m).toBitVec.isLt
  rw [h5]
  split at h3 <;> split at h4 <;> omega
