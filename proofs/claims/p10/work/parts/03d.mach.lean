/-! ===== calls ===== -/
def mWs (M : mM) : List Cond := Cond.code M.1 M.2.1 M.2.2.1 M.2.2.2 :: lw_use
def mRm (d k n : Nat) : Room := { frames := d, cells := k, slots := n, locals := 40 * d + 40 }
def mPc (G : mG) (args : List Value) (h : mH) : Array Value → State → Prop := fun a U => a = args.toArray ∧ mHOk G U h U.heap ∧ va_K G.1 vwCl G.2 U
def mQc (G : mG) (v : Option Value) (h' : mH) : Array Value → State → Outcome → State → Prop := fun _ st o t => o = .returned v ∧ mHOk G t h' t.heap ∧ va_K G.1 vwCl G.2 t ∧ va_F (fun q => h'.1 ≤ q) st t
def EVM (G : mG) (l : Launch) (d : Nat) (M : mM) (args : List Value) (h : mH) (v : Option Value) (h' : mH) : Prop :=
  (h.2.1 ≤ h'.2.1 ∧ h.2.2.1 ≤ h'.2.2.1 ∧ h.1 = h'.1) ∧
  Met l M.1 (mWs M) (mRm d (h'.2.1 - h.2.1) (h'.2.2.1 - h.2.2.1)) (mPc G args h) (mQc G v h') (h'.2.1 - h.2.1) (h'.2.2.1 - h.2.2.1) (fun q => h.1 ≤ q)
def mEnt : List Value → List (Option Value)
  | [] => []
  | v :: vs => if v.category = 2 then some v :: none :: mEnt vs else some v :: mEnt vs
def mLs (args : List Value) (n : Nat) : List (Option Value) := mEnt args ++ List.replicate (n - (mEnt args).length) none
def RUNM (G : mG) (l : Launch) (d : Nat) (M : mM) (args : List Value) (h : mH) (Q : Option Value → mH → Prop) : Prop := plainName M.1.cls = true ∧ (lg_sl args).length ≤ M.2.2.1 ∧ RUN G l d M 0 (mLs args M.2.2.1) [] h Q
theorem RUNM.mono {G : mG} {l : Launch} {d : Nat} {M : mM} {args : List Value} {h : mH} {Q Q' : Option Value → mH → Prop} (k : RUNM G l d M args h Q) (f : ∀ v h', Q v h' → Q' v h') : RUNM G l d M args h Q' := ⟨k.1, k.2.1, k.2.2.mono f⟩
theorem RUNM.deeper {G : mG} {l : Launch} {d d' : Nat} {M : mM} {args : List Value} {h : mH} {Q : Option Value → mH → Prop} (hd : d ≤ d') (k : RUNM G l d M args h Q) : RUNM G l d' M args h Q := ⟨k.1, k.2.1, k.2.2.deeper hd⟩
theorem RUNM.of {G : mG} {l : Launch} {d : Nat} {M : mM} {args : List Value} {h : mH} {Q : Option Value → mH → Prop} (hp : plainName M.1.cls = true) (hl : (lg_sl args).length ≤ M.2.2.1) (k : RUN G l d M 0 (mLs args M.2.2.1) [] h Q) : RUNM G l d M args h Q := ⟨hp, hl, k⟩
/-- what the tables say of a method -/
def mMeth (M : mM) (n : Nat) : Prop := Cond.code M.1 M.2.1 M.2.2.1 M.2.2.2 ∈ lw_use ∧ Cond.initialized M.1.cls ∈ lw_use ∧ (M.1.cls ≠ "java/lang/invoke/MethodHandle" ∧ M.1.cls ≠ "java/lang/invoke/VarHandle") ∧ M.2.2.1 ≤ 21 ∧ (parseMethodDescriptor M.1.desc).map (fun d => d.parameters.length) = some n
/-- .. and of a link to it -/
def mLk (own : String) (index : Nat) (M : mM) : Prop := Cond.methodLink own index M.1 ∈ lw_use ∨ ∃ host, Cond.methodLinkNest own index M.1 host ∈ lw_use
def mVirt (M : mM) : Prop := Cond.instanceMethod M.1 ∈ lw_use ∧ Cond.selects M.1.cls M.1 M.1 ∈ lw_use
theorem lsL_rep (k n : Nat) : lsL k (List.replicate n none) = [] := by
  induction n generalizing k with
  | zero => rfl
  | succ n ih => rw [List.replicate_succ]; exact ih (k + 1)
theorem mLs_args (n : Nat) : ∀ (vs : List Value) (k : Nat), lsL k (mEnt vs ++ List.replicate n none) = lv_args k vs
  | [], k => lsL_rep k n
  | v :: vs, k => by
    by_cases hc : v.category = 2
    · simp only [mEnt, hc, if_true, lv_args, List.cons_append, lsL]
      rw [mLs_args n vs (k + 2)]
    · simp only [mEnt, hc, if_false, lv_args, List.cons_append, lsL]
      rw [mLs_args n vs (k + 1)]
section CA
variable {G : mG} {l : Launch} {d : Nat} {M M2 : mM} {pc : Nat} {ls : List (Option Value)} {st : List Value} {h : mH} {Q Q2 : Option Value → mH → Prop} {args : List Value}
theorem RUNM.ev (kk : RUNM G l d M args h Q) : ∃ v h', EVM G l d M args h v h' ∧ Q v h' := by
  obtain ⟨hp, hl, k⟩ := kk
  obtain ⟨v, h', ⟨⟨b1, b2, b3⟩, b4⟩, q⟩ := k
  refine ⟨v, h', ⟨⟨b1, b2, b3⟩, ?_⟩, q⟩
  refine Met.ofW (cc := M.2.1) (maxL := M.2.2.1) (ret := M.2.2.2) hp rfl ?_
  intro p e s m as below meth c s₁ B hml hv
  obtain ⟨rfl, hH, hK⟩ := hv
  have hts := atoms_spec (ws := mWs M) B.pre
  have hlocks := B.notSynchronized
  have L := lv_entry args hl
  rw [← mLs_args (M.2.2.1 - (mEnt args).length) args 0] at L
  rw [lg_entry_eq]
  refine b4 p e _ s m args.toArray below meth c s.heap [] 0 0 (h'.2.1 - h.2.1) (h'.2.2.1 - h.2.2.1) _ _ ⟨B.exec, B.bytes, B.returns, hml, findClass_of_methodNamed B.named, fun w hw => hts w (List.mem_cons_of_mem _ hw), hlocks, fun g => (name_of_methodNamed B.named B.method).1.trans g, hK, Nat.le_refl _, Nat.le_refl _⟩ ⟨hH, va_S.rf, by rw [hH.1]; exact hH.2.1, L⟩ (Nat.le_refl _) (Nat.le_refl _) (Nat.zero_add _) (Nat.zero_add _) ?_
  intro pcE stE lsE H' locs' hr hH' hS'
  have F : ∀ t : State, t.heap = H' → s.WarmedH t.vm → mQc G v h' args.toArray s (.returned v) t := fun t ht hW => ⟨rfl, by rw [ht]; exact hH'.moved hW.alike, hK.moved hW.alike, by rw [← b3]; exact hS'.F ht⟩
  rcases hr with ⟨rfl, rfl, hd, hret⟩ | ⟨x, ty, rfl, rfl, hd, hret, hn⟩ | ⟨x, rfl, rfl, hd, hret⟩ | ⟨x, rt, rfl, rfl, hd, hret, hrt, hx⟩
  · exact W.vret B.exec B.bytes (B.returns.trans hret) F hS'.2.2 hd
  · exact W.zret B.exec B.bytes (B.returns.trans hret) hn F hS'.2.2 hd
  · exact W.lret B.exec B.bytes (B.returns.trans hret) F hS'.2.2 hd
  · exact W.aret B.exec B.bytes (B.returns.trans hret) hrt hx F hS'.2.2 hd
theorem m_blind : FrameBlind (mPc G args h) := fun a U g mk q => by
  obtain ⟨q0, q1, q2⟩ := q
  exact ⟨q0, q1.moved (s := U) (U := U.calling g mk a) (Vm.Alike.refl U.vm), va_K.moved (u := U) (U := U.calling g mk a) (Vm.Alike.refl U.vm) q2⟩
theorem m_pay {s : State} {as : Array Value} (hts : ∀ w ∈ lw_use, w.before as s = true) (hm : Cond.code M.1 M.2.1 M.2.2.1 M.2.2.2 ∈ lw_use) : ∀ w ∈ mWs M, ∀ (a' : Array Value) (U : State), s.WarmedH U.vm → w.before a' U = true := by
  intro w hw a' U hU
  have hin : w ∈ lw_use := by
    rcases List.mem_cons.mp hw with rfl | g
    · exact hm
    · exact g
  exact m_warm (lw_use_of hin).2 hU a' (hts w hin)
/-- what a call leaves behind, for whichever kind of call -/
theorem r_callAny {stk : List Value} (hcall : RUNM G l d M2 args h Q2)
    (run : ∀ {v h2} {p : Program} {e : Env} {R : Room} {s : State} {m : MethodId} {as : Array Value} {below : List Frame} {meth : Method} {c : Code} {H : Heap} {locs : List Loc} {cells slots : Nat} {lsR : Array Slot}, EVM G l d M2 args h v h2 → mCx G M (d + 1) p R s m as meth c → mHOk G s h H → lv_has lsR M.2.2.1 (lsL 0 ls) →
      cells + (h2.2.1 - h.2.1) ≤ R.cells → slots + (h2.2.2.1 - h.2.2.1) ≤ R.slots → va_Run p l e R s m as below meth c H locs cells slots (h2.2.1 - h.2.1) (h2.2.2.1 - h.2.2.1) (F0 m pc lsR stk) st (mQc G v h2 args.toArray) (fun q => h.1 ≤ q))
    (K : ∀ v h', Q2 v h' → RUN G l (d + 1) M (pc + 3) ls (v.toList ++ st) h' Q) : RUN G l (d + 1) M pc ls stk h Q := by
  obtain ⟨v2, h2, E, q2⟩ := hcall.ev
  obtain ⟨v, h', ⟨⟨b1, b2, b3⟩, b4⟩, q⟩ := K v2 h2 q2
  obtain ⟨⟨a1, a2, a3⟩, -⟩ := id E
  refine ⟨v, h', ⟨⟨by omega, by omega, a3.trans b3⟩, fun p e R s m as below meth c H locs cells slots kC kS Q lsR C S r1 r2 r3 r4 KK => ?_⟩, q⟩
  have hr := run (locs := locs) (e := e) (below := below) E C S.1 S.2.2.2 (cells := cells) (slots := slots) (by omega) (by omega)
  obtain ⟨hH, hS, hlo, hL⟩ := S
  intro T hT X
  obtain ⟨v', st₀, t, T', L, h0, X', hLf, e1, e2, ⟨hv, hH2, hK2, hF⟩, step⟩ := hr T hT X
  obtain rfl : v' = v2 := Outcome.returned.inj hv
  have hal : s.vm.Alike t.vm := by rw [← e2]; exact X'.warmed.alike
  obtain ⟨hz, hk⟩ := hF
  rw [h0] at hz hk
  obtain ⟨t2, g1, g2⟩ := b4 p e R s m as below meth c T'.heap (locs ++ L) (cells + (h2.2.1 - h.2.1)) (slots + (h2.2.2.1 - h.2.2.1)) kC kS Q lsR C ⟨by rw [e1]; exact hH2.moved hal.symm, ⟨by rw [e1]; exact Nat.le_trans hS.1 hz, fun q h1 h2 => by
      rw [← a3] at h2
      rw [e1, hk q (Nat.lt_of_lt_of_le h1 hS.1) (by rw [← a3]; exact h2)]; exact hS.2.1 q h1 h2, fun q hq => by
      show h2.1 ≤ q.base
      rw [← a3]
      rcases List.mem_append.mp hq with g | g
      · exact hS.2.2 q g
      · exact hLf q g⟩, by rw [← a3]; exact hlo, hL⟩ r1 r2 (by omega) (by omega) (fun pcE stE lsE H' locs' u1 u2 u3 => KK pcE stE lsE H' locs' u1 u2 (by rw [a3]; exact u3)) T' rfl X'
  exact ⟨t2, step t2 g1, g2⟩
theorem r_callVg {stk As : List Value} {index n b ci : Nat} {fs : List Value} {r : vw_C} (hdg : decode M.2.1 pc = .ok (.invokevirtual index, 3)) (hm : mMeth M2 n) (hk : mLk M.1.cls index M2) (hv : mVirt M2) (hn : As.length = n) (hob : hGet h b = some (.inl (ci, fs))) (hc : vwCl[ci]? = some r) (hcl : r.1 = M2.1.cls) (hs : stk = As.reverse ++ .ref b :: st) (hW : (st.map fun v => v.category).sum ≤ 8)
    (hcall : RUNM G l d M2 (.ref b :: As) h Q2) (K : ∀ v h', Q2 v h' → RUN G l (d + 1) M (pc + 3) ls (v.toList ++ st) h' Q) : RUN G l (d + 1) M pc ls stk h Q := by
  subst hs
  refine r_callAny hcall (fun {v h2 p e R s m as below meth c H locs cells slots lsR} E C hH hL q1 q2 => ?_) K
  obtain ⟨hx, hb, -, hml, hown, hts, -, -, hK, hfr, hlo⟩ := C
  obtain ⟨m1, m2, m3, m4, m5⟩ := hm
  have hrec : ∃ cellB : Cell, H[b]? = some cellB ∧ cellB.vm.isStatics = false ∧ s.vm.findClass M2.1.cls = some cellB.cls := by
    obtain ⟨q', g0, cell, g1, g2, g3, -⟩ := hH.2.2 b _ hob
    exact ⟨cell, g1, by rw [g3]; rfl, by rw [g2, ← hcl]; exact (hK.1 ci r hc).2.1⟩
  have hp : PreV s H M2.1.cls b (mPc G (.ref b :: As) h) As := ⟨m_blind, hrec, fun U hU hW => ⟨rfl, by rw [hU]; exact hH.moved hW.alike, hK.moved hW.alike⟩⟩
  have hsig : ∀ sig, parseMethodDescriptor M2.1.desc = some sig → n = sig.parameters.length := fun sig h => by rw [h] at m5; exact (Option.some.inj m5).symm
  have hpay := m_pay hts m1
  rcases hk with hk | ⟨host, hk⟩
  · exact va_runV (C := M2.1.cls) (y := M2.1) (bytes := M2.2.1) (maxL := M2.2.2.1) (ret := M2.2.2.2) (ws := mWs M2) (n := n) ⟨hx, hb, hml, hown, hts⟩ E.2 ⟨⟨rfl, rfl, hfr, by show 8 + (M2.2.2.1 + 11) + (40 * d + 40) ≤ R.locals; omega, hpay, List.mem_cons_self, hts _ m1, hts _ m2, m3, hsig, hts _ hk⟩, hts _ hv.1, hts _ hv.2⟩ hp rfl hn hL.1 rfl (lv_room hW) hdg ⟨q1, q2⟩
  · exact va_runVN (C := M2.1.cls) (y := M2.1) (bytes := M2.2.1) (maxL := M2.2.2.1) (ret := M2.2.2.2) (ws := mWs M2) (n := n) ⟨hx, hb, hml, hown, hts⟩ E.2 ⟨⟨⟨rfl, rfl, hfr, by show 8 + (M2.2.2.1 + 11) + (40 * d + 40) ≤ R.locals; omega, hpay, List.mem_cons_self⟩, hts _ m1, hts _ m2, m3, hsig, hts _ hk⟩, hts _ hv.1, hts _ hv.2⟩ hp rfl hn hL.1 rfl (lv_room hW) hdg ⟨q1, q2⟩
theorem r_callSg {stk As : List Value} {index n : Nat} (hdg : decode M.2.1 pc = .ok (.invokestatic index, 3)) (hm : mMeth M2 n) (hk : mLk M.1.cls index M2) (hv : Cond.static M2.1 ∈ lw_use) (hn : As.length = n) (hs : stk = As.reverse ++ st) (hW : (st.map fun v => v.category).sum ≤ 8)
    (hcall : RUNM G l d M2 As h Q2) (K : ∀ v h', Q2 v h' → RUN G l (d + 1) M (pc + 3) ls (v.toList ++ st) h' Q) : RUN G l (d + 1) M pc ls stk h Q := by
  subst hs
  refine r_callAny hcall (fun {v h2 p e R s m as below meth c H locs cells slots lsR} E C hH hL q1 q2 => ?_) K
  obtain ⟨hx, hb, -, hml, hown, hts, -, -, hK, hfr, hlo⟩ := C
  obtain ⟨m1, m2, m3, m4, m5⟩ := hm
  have hp : PreS s H (mPc G As h) As := ⟨m_blind, fun U hU hW => ⟨rfl, by rw [hU]; exact hH.moved hW.alike, hK.moved hW.alike⟩⟩
  have hsig : ∀ sig, parseMethodDescriptor M2.1.desc = some sig → n = sig.parameters.length := fun sig h => by rw [h] at m5; exact (Option.some.inj m5).symm
  have hpay := m_pay hts m1
  rcases hk with hk | ⟨host, hk⟩
  · exact va_runS (y := M2.1) (bytes := M2.2.1) (maxL := M2.2.2.1) (ret := M2.2.2.2) (ws := mWs M2) (n := n) ⟨hx, hb, hml, hown, hts⟩ E.2 ⟨⟨rfl, rfl, hfr, by show 8 + (M2.2.2.1 + 11) + (40 * d + 40) ≤ R.locals; omega, hpay, List.mem_cons_self, hts _ m1, hts _ m2, m3, hsig, hts _ hk⟩, hts _ hv⟩ hp rfl hn hL.1 rfl (lv_room hW) hdg ⟨q1, q2⟩
  · exact va_runSN (y := M2.1) (bytes := M2.2.1) (maxL := M2.2.2.1) (ret := M2.2.2.2) (ws := mWs M2) (n := n) ⟨hx, hb, hml, hown, hts⟩ E.2 ⟨⟨⟨rfl, rfl, hfr, by show 8 + (M2.2.2.1 + 11) + (40 * d + 40) ≤ R.locals; omega, hpay, List.mem_cons_self⟩, hts _ m1, hts _ m2, m3, hsig, hts _ hk⟩, hts _ hv, trivial⟩ hp rfl hn hL.1 rfl (lv_room hW) hdg ⟨q1, q2⟩
theorem r_callIg {stk As : List Value} {index n b : Nat} (hdg : decode M.2.1 pc = .ok (.invokespecial index, 3)) (hm : mMeth M2 n) (hret : M2.2.2.2 = none) (hk : mLk M.1.cls index M2) (hy : M2.1.name = "<init>") (hi : Cond.instanceMethod M2.1 ∈ lw_use) (hn : As.length = n) (hs : stk = As.reverse ++ .ref b :: st) (hW : (st.map fun v => v.category).sum ≤ 8)
    (hcall : RUNM G l d M2 (.ref b :: As) h Q2) (K : ∀ v h', Q2 v h' → RUN G l (d + 1) M (pc + 3) ls (v.toList ++ st) h' Q) : RUN G l (d + 1) M pc ls stk h Q := by
  subst hs
  refine r_callAny hcall (fun {v h2 p e R s m as below meth c H locs cells slots lsR} E C hH hL q1 q2 => ?_) K
  obtain ⟨hx, hb, -, hml, hown, hts, -, -, hK, hfr, hlo⟩ := C
  obtain ⟨m1, m2, m3, m4, m5⟩ := hm
  have hp : PreS s H (mPc G (.ref b :: As) h) (.ref b :: As) := ⟨m_blind, fun U hU hW => ⟨rfl, by rw [hU]; exact hH.moved hW.alike, hK.moved hW.alike⟩⟩
  have hsig : ∀ sig, parseMethodDescriptor M2.1.desc = some sig → n = sig.parameters.length := fun sig h => by rw [h] at m5; exact (Option.some.inj m5).symm
  have hpay := m_pay hts m1
  have hcw : Cond.code M2.1 M2.2.1 M2.2.2.1 none ∈ mWs M2 := by rw [← hret]; exact List.mem_cons_self
  have m1' : Cond.code M2.1 M2.2.1 M2.2.2.1 none ∈ lw_use := by rw [← hret]; exact m1
  rcases hk with hk | ⟨host, hk⟩
  · exact va_runI (y := M2.1) (bytes := M2.2.1) (maxL := M2.2.2.1) (ws := mWs M2) (n := n) ⟨hx, hb, hml, hown, hts⟩ E.2 ⟨⟨rfl, rfl, hfr, by show 8 + (M2.2.2.1 + 11) + (40 * d + 40) ≤ R.locals; omega, hpay, hcw, hts _ m1', hts _ m2, m3, hsig, hts _ hk⟩, hy, hts _ hi⟩ hp rfl hn hL.1 rfl (lv_room hW) hdg ⟨q1, q2⟩
  · exact va_runIN (y := M2.1) (bytes := M2.2.1) (maxL := M2.2.2.1) (ws := mWs M2) (n := n) ⟨hx, hb, hml, hown, hts⟩ E.2 ⟨⟨⟨rfl, rfl, hfr, by show 8 + (M2.2.2.1 + 11) + (40 * d + 40) ≤ R.locals; omega, hpay, hcw⟩, hts _ m1', hts _ m2, m3, hsig, hts _ hk⟩, hy, hts _ hi⟩ hp rfl hn hL.1 rfl (lv_room hW) hdg ⟨q1, q2⟩
theorem lw_oi0 : Cond.instanceMethod Lib.objectInit ∈ lw_tbl ∧ Cond.code Lib.objectInit ⟨#[0xb1]⟩ 1 none ∈ lw_tbl := by decide +kernel
theorem lw_oi : Cond.instanceMethod Lib.objectInit ∈ lw_use ∧ Cond.code Lib.objectInit ⟨#[0xb1]⟩ 1 none ∈ lw_use := ⟨lw_use_in lw_oi0.1 rfl, lw_use_in lw_oi0.2 rfl⟩
theorem r_objInit {idx a : Nat} (hdg : decode M.2.1 pc = .ok (.invokespecial idx, 3)) (hw : Cond.methodLink M.1.cls idx Lib.objectInit ∈ lw_use) (hW : (st.map fun v => v.category).sum ≤ 8) (K : RUN G l (d + 1) M (pc + 3) ls st h Q) : RUN G l (d + 1) M pc ls (.ref a :: st) h Q := by
  refine RUN.step (fun v h' b => ⟨b.1, fun p e R s m args below meth c H locs cells slots kC kS Q lsR C S r1 r2 r3 r4 KK => ?_⟩) K
  have w := b.2 p e R s m args below meth c H locs cells slots kC kS Q lsR C S r1 r2 r3 r4 KK
  obtain ⟨hx, hb, -, hml, hown, hts, -, -, hK, hfr, hlo⟩ := C
  exact W.objInit hx hb hown (hts _ hw) (hts _ lw_oi.1) (hts _ lw_oi.2) rfl (by rw [hml]; exact S.2.2.2.1) rfl hdg (by omega) (by
    have := lv_room (m := m) (pc := pc) (ls := lsR) (rest := .ref a :: st) hW
    omega) w
theorem lw_ac0 : Cond.native arraycopyName ∈ lw_tbl ∧ Cond.static arraycopyName ∈ lw_tbl ∧ Cond.initialized "java/lang/System" ∈ lw_tbl := by decide +kernel
theorem lw_ac : Cond.native arraycopyName ∈ lw_use ∧ Cond.static arraycopyName ∈ lw_use ∧ Cond.initialized "java/lang/System" ∈ lw_use := ⟨lw_use_in lw_ac0.1 rfl, lw_use_in lw_ac0.2.1 rfl, lw_use_in lw_ac0.2.2 rfl⟩
theorem m_rowAt {s : State} {H : Heap} {a n : Nat} {f : Nat → Int32} (hH : mHOk G s h H) (ho : hGet h a = some (.inr (.inl (n, f)))) (hlo : h.1 ≤ a) : ∃ cA : ClassId, G.2[0]? = some (cA, FieldType.int) ∧ H[a]? = some (vp_cell cA (n, .inl f)) := by
  rcases hH.2.2 a _ ho with z | ⟨z, -⟩
  · exact z
  · omega
theorem r_acopy {index a0 a n0 n1 : Nat} {f g : Nat → Int32} {sp dp n : Int32} (hdg : decode M.2.1 pc = .ok (.invokestatic index, 3)) (hw : Cond.methodLink M.1.cls index arraycopyName ∈ lw_use) (ho0 : hGet h a0 = some (.inr (.inl (n0, f)))) (ho1 : hGet h a = some (.inr (.inl (n1, g)))) (hlo0 : h.1 ≤ a0) (hlo : h.1 ≤ a)
    (h1 : ¬ sp < 0) (h2 : ¬ dp < 0) (h3 : ¬ n < 0) (h4 : sp.toNatClampNeg + n.toNatClampNeg ≤ n0) (h5 : dp.toNatClampNeg + n.toNatClampNeg ≤ n1) (hW : (st.map fun v => v.category).sum ≤ 8)
    (K : RUN G l (d + 1) M (pc + 3) ls st (hPut h a (.inr (.inl (n1, va_cpy f g sp.toNatClampNeg dp.toNatClampNeg n.toNatClampNeg)))) Q) : RUN G l (d + 1) M pc ls (.int n :: .int dp :: .ref a :: .int sp :: .ref a0 :: st) h Q := by
  have nn : ∀ z : Int32, ¬ z < 0 → z.toInt = (z.toNatClampNeg : Int) := by
    intro z hz
    have hz0 : (0 : Int) ≤ z.toInt := by
      have := Int32.not_lt.mp hz
      simpa using Int32.le_iff_toInt_le.mp this
    show z.toInt = ((z.toInt.toNat : Nat) : Int)
    omega
  refine r_put hlo (fun {p e R s m args below meth c H locs cells slots Q lsR} C hH hL w => ?_) K
  obtain ⟨hx, hb, -, hml, hown, hts, -, -, hK, hfr, hloc⟩ := C
  obtain ⟨c0, z0, hc0⟩ := m_rowAt hH ho0 hlo0
  obtain ⟨c1, z1, hc1⟩ := m_rowAt hH ho1 hlo
  intro T hT X
  obtain ⟨-, k0, hk0, cm0, hkk0⟩ := (m_tyOf hK z0).1 n0 (fun j => .int (f j))
  obtain ⟨-, k1, hk1, cm1, hkk1⟩ := (m_tyOf hK z1).1 n1 (fun j => .int (g j))
  obtain ⟨vm', X', step⟩ := X.arraycopy hx hown (hts _ hw) (hts _ lw_ac.1) (hts _ lw_ac.2.1) (hts _ lw_ac.2.2) (src := a0) (dst := a) (cs := vp_cell c0 (n0, .inl f)) (cd := vp_cell c1 (n1, .inl g)) (srcPos := sp) (destPos := dp) (n := n) (by rw [hT]; exact hc0) (by rw [hT]; exact hc1)
    (fun _ h => by cases h) (fun _ h => by cases h) (fun h => by cases h) (fun h => by cases h) hk0 hk1 hkk0 hkk1 (by simp [refKind]) h1 h2 h3
    (by rw [nn sp h1, nn n h3]; show ¬ _ > ((arrV c0 n0 (fun j => .int (f j))).slots.size : Int); rw [arrV_size]; omega)
    (by rw [nn dp h2, nn n h3]; show ¬ _ > ((arrV c1 n1 (fun j => .int (g j))).slots.size : Int); rw [arrV_size]; omega)
    (fun vm₁ _ i hi => by
      have e : (vp_cell c0 (n0, .inl f)).slots.getD (sp.toNatClampNeg + i) .null = .int (f (sp.toNatClampNeg + i)) := by
        show (arrV c0 n0 (fun j => .int (f j))).slots.getD _ _ = _
        rw [Array.getD_eq_getD_getElem?, arrV_read _ _ (by omega)]
        rfl
      refine ⟨?_, ?_⟩
      · rw [e]
        rfl
      · rw [e]
        exact trivial)
    (g := F0 m pc lsR (.int n :: .int dp :: .ref a :: .int sp :: .ref a0 :: st)) rfl (by rw [hml]; exact hL.1) (rest := st) rfl (by rw [hb]; exact hdg) (by omega) (by
      have z := lv_room (m := m) (pc := pc) (ls := lsR) (rest := st) hW
      have z2 : nativeFrameWords "java/lang/System" "arraycopy" 5 ≤ 12 := by decide +kernel
      show 2 * 0 + _ + _ ≤ _
      omega)
  have e1 : copied (vp_cell c0 (n0, .inl f)) (vp_cell c1 (n1, .inl g)) sp dp n = vp_cell c1 (n1, .inl (va_cpy f g sp.toNatClampNeg dp.toNatClampNeg n.toNatClampNeg)) := va_copied (fun z => .int z) c0 c1 f g h4
  rw [e1] at X' step
  have hl : a < H.size := (Array.getElem?_eq_some_iff.mp hc1).1
  have hheap : ((T.setVm vm').setCell a (vp_cell c1 (n1, .inl (va_cpy f g sp.toNatClampNeg dp.toNatClampNeg n.toNatClampNeg)))).heap = H.setIfInBounds a (vp_cell c1 (n1, .inl (va_cpy f g sp.toNatClampNeg dp.toNatClampNeg n.toNatClampNeg))) := by rw [← hT]; rfl
  have oq : ∀ q : Nat, q ≠ a → (H.setIfInBounds a (vp_cell c1 (n1, .inl (va_cpy f g sp.toNatClampNeg dp.toNatClampNeg n.toNatClampNeg))))[q]? = H[q]? := fun q hq => by simp [Array.getElem?_setIfInBounds, Ne.symm hq]
  obtain ⟨t, a1, b1⟩ := w _ _ (fun x hx => by
      rcases List.mem_append.mp hx with g | g
      · exact Or.inl g
      · obtain ⟨z, -, hz⟩ := List.mem_map.mp g
        rw [← hz]
        exact Or.inr rfl) (by simp) oq (Or.inl ⟨c1, z1, by simp [Array.getElem?_setIfInBounds, hl]⟩) _ hheap X'
  exact ⟨t, step t a1, b1⟩
theorem r_callV0 {index b ci : Nat} {fs : List Value} {r : vw_C} (hdg : decode M.2.1 pc = .ok (.invokevirtual index, 3)) (hm : mMeth M2 0) (hk : mLk M.1.cls index M2) (hv : mVirt M2) (hob : hGet h b = some (.inl (ci, fs))) (hc : vwCl[ci]? = some r) (hcl : r.1 = M2.1.cls) (hW : (st.map fun v => v.category).sum ≤ 8)
    (hcall : RUNM G l d M2 (.ref b :: []) h Q2) (K : ∀ v h', Q2 v h' → RUN G l (d + 1) M (pc + 3) ls (v.toList ++ st) h' Q) : RUN G l (d + 1) M pc ls (.ref b :: st) h Q := r_callVg (As := []) hdg hm hk hv rfl hob hc hcl rfl hW hcall K
theorem r_callI0 {index b : Nat} (hdg : decode M.2.1 pc = .ok (.invokespecial index, 3)) (hm : mMeth M2 0) (hret : M2.2.2.2 = none) (hk : mLk M.1.cls index M2) (hy : M2.1.name = "<init>") (hi : Cond.instanceMethod M2.1 ∈ lw_use) (hW : (st.map fun v => v.category).sum ≤ 8)
    (hcall : RUNM G l d M2 (.ref b :: []) h Q2) (K : ∀ v h', Q2 v h' → RUN G l (d + 1) M (pc + 3) ls (v.toList ++ st) h' Q) : RUN G l (d + 1) M pc ls (.ref b :: st) h Q := r_callIg (As := []) hdg hm hret hk hy hi rfl rfl hW hcall K
theorem r_callV1 {x1 : Value} {index b ci : Nat} {fs : List Value} {r : vw_C} (hdg : decode M.2.1 pc = .ok (.invokevirtual index, 3)) (hm : mMeth M2 1) (hk : mLk M.1.cls index M2) (hv : mVirt M2) (hob : hGet h b = some (.inl (ci, fs))) (hc : vwCl[ci]? = some r) (hcl : r.1 = M2.1.cls) (hW : (st.map fun v => v.category).sum ≤ 8)
    (hcall : RUNM G l d M2 (.ref b :: [x1]) h Q2) (K : ∀ v h', Q2 v h' → RUN G l (d + 1) M (pc + 3) ls (v.toList ++ st) h' Q) : RUN G l (d + 1) M pc ls (x1 :: .ref b :: st) h Q := r_callVg (As := [x1]) hdg hm hk hv rfl hob hc hcl rfl hW hcall K
theorem r_callI1 {x1 : Value} {index b : Nat} (hdg : decode M.2.1 pc = .ok (.invokespecial index, 3)) (hm : mMeth M2 1) (hret : M2.2.2.2 = none) (hk : mLk M.1.cls index M2) (hy : M2.1.name = "<init>") (hi : Cond.instanceMethod M2.1 ∈ lw_use) (hW : (st.map fun v => v.category).sum ≤ 8)
    (hcall : RUNM G l d M2 (.ref b :: [x1]) h Q2) (K : ∀ v h', Q2 v h' → RUN G l (d + 1) M (pc + 3) ls (v.toList ++ st) h' Q) : RUN G l (d + 1) M pc ls (x1 :: .ref b :: st) h Q := r_callIg (As := [x1]) hdg hm hret hk hy hi rfl rfl hW hcall K
theorem r_callV2 {x1 x2 : Value} {index b ci : Nat} {fs : List Value} {r : vw_C} (hdg : decode M.2.1 pc = .ok (.invokevirtual index, 3)) (hm : mMeth M2 2) (hk : mLk M.1.cls index M2) (hv : mVirt M2) (hob : hGet h b = some (.inl (ci, fs))) (hc : vwCl[ci]? = some r) (hcl : r.1 = M2.1.cls) (hW : (st.map fun v => v.category).sum ≤ 8)
    (hcall : RUNM G l d M2 (.ref b :: [x1, x2]) h Q2) (K : ∀ v h', Q2 v h' → RUN G l (d + 1) M (pc + 3) ls (v.toList ++ st) h' Q) : RUN G l (d + 1) M pc ls (x2 :: x1 :: .ref b :: st) h Q := r_callVg (As := [x1, x2]) hdg hm hk hv rfl hob hc hcl rfl hW hcall K
theorem r_callI2 {x1 x2 : Value} {index b : Nat} (hdg : decode M.2.1 pc = .ok (.invokespecial index, 3)) (hm : mMeth M2 2) (hret : M2.2.2.2 = none) (hk : mLk M.1.cls index M2) (hy : M2.1.name = "<init>") (hi : Cond.instanceMethod M2.1 ∈ lw_use) (hW : (st.map fun v => v.category).sum ≤ 8)
    (hcall : RUNM G l d M2 (.ref b :: [x1, x2]) h Q2) (K : ∀ v h', Q2 v h' → RUN G l (d + 1) M (pc + 3) ls (v.toList ++ st) h' Q) : RUN G l (d + 1) M pc ls (x2 :: x1 :: .ref b :: st) h Q := r_callIg (As := [x1, x2]) hdg hm hret hk hy hi rfl rfl hW hcall K
theorem r_callV3 {x1 x2 x3 : Value} {index b ci : Nat} {fs : List Value} {r : vw_C} (hdg : decode M.2.1 pc = .ok (.invokevirtual index, 3)) (hm : mMeth M2 3) (hk : mLk M.1.cls index M2) (hv : mVirt M2) (hob : hGet h b = some (.inl (ci, fs))) (hc : vwCl[ci]? = some r) (hcl : r.1 = M2.1.cls) (hW : (st.map fun v => v.category).sum ≤ 8)
    (hcall : RUNM G l d M2 (.ref b :: [x1, x2, x3]) h Q2) (K : ∀ v h', Q2 v h' → RUN G l (d + 1) M (pc + 3) ls (v.toList ++ st) h' Q) : RUN G l (d + 1) M pc ls (x3 :: x2 :: x1 :: .ref b :: st) h Q := r_callVg (As := [x1, x2, x3]) hdg hm hk hv rfl hob hc hcl rfl hW hcall K
theorem r_callV4 {x1 x2 x3 x4 : Value} {index b ci : Nat} {fs : List Value} {r : vw_C} (hdg : decode M.2.1 pc = .ok (.invokevirtual index, 3)) (hm : mMeth M2 4) (hk : mLk M.1.cls index M2) (hv : mVirt M2) (hob : hGet h b = some (.inl (ci, fs))) (hc : vwCl[ci]? = some r) (hcl : r.1 = M2.1.cls) (hW : (st.map fun v => v.category).sum ≤ 8)
    (hcall : RUNM G l d M2 (.ref b :: [x1, x2, x3, x4]) h Q2) (K : ∀ v h', Q2 v h' → RUN G l (d + 1) M (pc + 3) ls (v.toList ++ st) h' Q) : RUN G l (d + 1) M pc ls (x4 :: x3 :: x2 :: x1 :: .ref b :: st) h Q := r_callVg (As := [x1, x2, x3, x4]) hdg hm hk hv rfl hob hc hcl rfl hW hcall K
theorem r_callV5 {x1 x2 x3 x4 x5 : Value} {index b ci : Nat} {fs : List Value} {r : vw_C} (hdg : decode M.2.1 pc = .ok (.invokevirtual index, 3)) (hm : mMeth M2 5) (hk : mLk M.1.cls index M2) (hv : mVirt M2) (hob : hGet h b = some (.inl (ci, fs))) (hc : vwCl[ci]? = some r) (hcl : r.1 = M2.1.cls) (hW : (st.map fun v => v.category).sum ≤ 8)
    (hcall : RUNM G l d M2 (.ref b :: [x1, x2, x3, x4, x5]) h Q2) (K : ∀ v h', Q2 v h' → RUN G l (d + 1) M (pc + 3) ls (v.toList ++ st) h' Q) : RUN G l (d + 1) M pc ls (x5 :: x4 :: x3 :: x2 :: x1 :: .ref b :: st) h Q := r_callVg (As := [x1, x2, x3, x4, x5]) hdg hm hk hv rfl hob hc hcl rfl hW hcall K
theorem r_callV6 {x1 x2 x3 x4 x5 x6 : Value} {index b ci : Nat} {fs : List Value} {r : vw_C} (hdg : decode M.2.1 pc = .ok (.invokevirtual index, 3)) (hm : mMeth M2 6) (hk : mLk M.1.cls index M2) (hv : mVirt M2) (hob : hGet h b = some (.inl (ci, fs))) (hc : vwCl[ci]? = some r) (hcl : r.1 = M2.1.cls) (hW : (st.map fun v => v.category).sum ≤ 8)
    (hcall : RUNM G l d M2 (.ref b :: [x1, x2, x3, x4, x5, x6]) h Q2) (K : ∀ v h', Q2 v h' → RUN G l (d + 1) M (pc + 3) ls (v.toList ++ st) h' Q) : RUN G l (d + 1) M pc ls (x6 :: x5 :: x4 :: x3 :: x2 :: x1 :: .ref b :: st) h Q := r_callVg (As := [x1, x2, x3, x4, x5, x6]) hdg hm hk hv rfl hob hc hcl rfl hW hcall K
theorem r_callS0 {index : Nat} (hdg : decode M.2.1 pc = .ok (.invokestatic index, 3)) (hm : mMeth M2 0) (hk : mLk M.1.cls index M2) (hv : Cond.static M2.1 ∈ lw_use) (hW : (st.map fun v => v.category).sum ≤ 8)
    (hcall : RUNM G l d M2 [] h Q2) (K : ∀ v h', Q2 v h' → RUN G l (d + 1) M (pc + 3) ls (v.toList ++ st) h' Q) : RUN G l (d + 1) M pc ls (st) h Q := r_callSg (As := []) hdg hm hk hv rfl rfl hW hcall K
theorem r_callS1 {x1 : Value} {index : Nat} (hdg : decode M.2.1 pc = .ok (.invokestatic index, 3)) (hm : mMeth M2 1) (hk : mLk M.1.cls index M2) (hv : Cond.static M2.1 ∈ lw_use) (hW : (st.map fun v => v.category).sum ≤ 8)
    (hcall : RUNM G l d M2 [x1] h Q2) (K : ∀ v h', Q2 v h' → RUN G l (d + 1) M (pc + 3) ls (v.toList ++ st) h' Q) : RUN G l (d + 1) M pc ls (x1 :: st) h Q := r_callSg (As := [x1]) hdg hm hk hv rfl rfl hW hcall K
theorem r_callS2 {x1 x2 : Value} {index : Nat} (hdg : decode M.2.1 pc = .ok (.invokestatic index, 3)) (hm : mMeth M2 2) (hk : mLk M.1.cls index M2) (hv : Cond.static M2.1 ∈ lw_use) (hW : (st.map fun v => v.category).sum ≤ 8)
    (hcall : RUNM G l d M2 [x1, x2] h Q2) (K : ∀ v h', Q2 v h' → RUN G l (d + 1) M (pc + 3) ls (v.toList ++ st) h' Q) : RUN G l (d + 1) M pc ls (x2 :: x1 :: st) h Q := r_callSg (As := [x1, x2]) hdg hm hk hv rfl rfl hW hcall K
theorem r_callS3 {x1 x2 x3 : Value} {index : Nat} (hdg : decode M.2.1 pc = .ok (.invokestatic index, 3)) (hm : mMeth M2 3) (hk : mLk M.1.cls index M2) (hv : Cond.static M2.1 ∈ lw_use) (hW : (st.map fun v => v.category).sum ≤ 8)
    (hcall : RUNM G l d M2 [x1, x2, x3] h Q2) (K : ∀ v h', Q2 v h' → RUN G l (d + 1) M (pc + 3) ls (v.toList ++ st) h' Q) : RUN G l (d + 1) M pc ls (x3 :: x2 :: x1 :: st) h Q := r_callSg (As := [x1, x2, x3]) hdg hm hk hv rfl rfl hW hcall K
theorem r_callS4 {x1 x2 x3 x4 : Value} {index : Nat} (hdg : decode M.2.1 pc = .ok (.invokestatic index, 3)) (hm : mMeth M2 4) (hk : mLk M.1.cls index M2) (hv : Cond.static M2.1 ∈ lw_use) (hW : (st.map fun v => v.category).sum ≤ 8)
    (hcall : RUNM G l d M2 [x1, x2, x3, x4] h Q2) (K : ∀ v h', Q2 v h' → RUN G l (d + 1) M (pc + 3) ls (v.toList ++ st) h' Q) : RUN G l (d + 1) M pc ls (x4 :: x3 :: x2 :: x1 :: st) h Q := r_callSg (As := [x1, x2, x3, x4]) hdg hm hk hv rfl rfl hW hcall K
theorem r_callS5 {x1 x2 x3 x4 x5 : Value} {index : Nat} (hdg : decode M.2.1 pc = .ok (.invokestatic index, 3)) (hm : mMeth M2 5) (hk : mLk M.1.cls index M2) (hv : Cond.static M2.1 ∈ lw_use) (hW : (st.map fun v => v.category).sum ≤ 8)
    (hcall : RUNM G l d M2 [x1, x2, x3, x4, x5] h Q2) (K : ∀ v h', Q2 v h' → RUN G l (d + 1) M (pc + 3) ls (v.toList ++ st) h' Q) : RUN G l (d + 1) M pc ls (x5 :: x4 :: x3 :: x2 :: x1 :: st) h Q := r_callSg (As := [x1, x2, x3, x4, x5]) hdg hm hk hv rfl rfl hW hcall K
theorem r_callS6 {x1 x2 x3 x4 x5 x6 : Value} {index : Nat} (hdg : decode M.2.1 pc = .ok (.invokestatic index, 3)) (hm : mMeth M2 6) (hk : mLk M.1.cls index M2) (hv : Cond.static M2.1 ∈ lw_use) (hW : (st.map fun v => v.category).sum ≤ 8)
    (hcall : RUNM G l d M2 [x1, x2, x3, x4, x5, x6] h Q2) (K : ∀ v h', Q2 v h' → RUN G l (d + 1) M (pc + 3) ls (v.toList ++ st) h' Q) : RUN G l (d + 1) M pc ls (x6 :: x5 :: x4 :: x3 :: x2 :: x1 :: st) h Q := r_callSg (As := [x1, x2, x3, x4, x5, x6]) hdg hm hk hv rfl rfl hW hcall K
end CA
