section mg_06
/-! ===== ints as whole numbers: J a is the int of the whole number a; what is computed stays in this form, comparisons ask for the range ===== -/
theorem J_ex : ∃ f : Int → Int32, ∀ a, f a = Int32.ofInt a := ⟨_, fun _ => rfl⟩
/-- chosen, so that nothing unfolds it -/
noncomputable def J : Int → Int32 := Classical.choose J_ex
theorem J_def (a : Int) : J a = Int32.ofInt a := Classical.choose_spec J_ex a
abbrev InR (a : Int) : Prop := -2147483648 ≤ a ∧ a < 2147483648
theorem J_toInt {a : Int} (h : InR a) : (J a).toInt = a := by rw [J_def]; exact Int32.toInt_ofInt_of_le h.1 h.2
theorem J_of (x : Int32) : x = J x.toInt := by rw [J_def]; exact (Int32.ofInt_toInt x).symm
theorem J_rg (x : Int32) : InR x.toInt := ⟨Int32.le_toInt x, Int32.toInt_lt x⟩
theorem J_add (a b : Int) : J a + J b = J (a + b) := by rw [J_def, J_def, J_def]; exact (Int32.ofInt_add a b).symm
theorem J_sub (a b : Int) : J a - J b = J (a - b) := by rw [J_def, J_def, J_def]; exact (Int32.ofInt_sub a b).symm
theorem J_mul (a b : Int) : J a * J b = J (a * b) := by rw [J_def, J_def, J_def]; exact (Int32.ofInt_mul a b).symm
theorem J_neg (a : Int) : -J a = J (-a) := by rw [J_def, J_def]; exact (Int32.ofInt_neg a).symm
theorem J_inj {a b : Int} (ha : InR a) (hb : InR b) : J a = J b ↔ a = b := ⟨fun h => by rw [← J_toInt ha, h, J_toInt hb], fun h => by rw [h]⟩
theorem J_lt {a b : Int} (ha : InR a) (hb : InR b) : J a < J b ↔ a < b := by rw [Int32.lt_iff_toInt_lt, J_toInt ha, J_toInt hb]
theorem J_le {a b : Int} (ha : InR a) (hb : InR b) : J a ≤ J b ↔ a ≤ b := by rw [Int32.le_iff_toInt_le, J_toInt ha, J_toInt hb]
theorem J_0 : (0 : Int32) = J 0 := by rw [J_def]; decide +kernel
theorem J_1 : (1 : Int32) = J 1 := by rw [J_def]; decide +kernel
theorem J_nat (n : Nat) : Int32.ofNat n = J (n : Int) := by rw [J_def]; rfl
theorem J_cl {i : Int} (h0 : 0 ≤ i) (h : InR i) : (J i).toNatClampNeg = i.toNat := by
  show (J i).toInt.toNat = i.toNat
  rw [J_toInt h]
theorem J_in {i : Int} {n : Nat} (h : InR i) (h0 : 0 ≤ i) (h1 : i < n) : vp_in (J i) n := by
  intro q
  rcases q with q | q
  · rw [J_0, J_lt h (by constructor <;> omega)] at q
    omega
  · rw [J_cl h0 h] at q
    omega
def updI (f : Nat → Int) (k : Nat) (v : Int) : Nat → Int := fun q => if q = k then v else f q
theorem updI_s {f : Nat → Int} {k : Nat} {v : Int} : updI f k v k = v := by simp [updI]
theorem updI_n {f : Nat → Int} {k q : Nat} {v : Int} (h : q ≠ k) : updI f k v q = f q := by simp [updI, h]
theorem J_upd (f : Nat → Int) (k : Nat) (v : Int) : upd (fun q => J (f q)) k (J v) = fun q => J (updI f k v q) := by
  funext q
  by_cases h : q = k <;> simp [upd, updI, h]
theorem hGet_put_self {h : mH} {a : Nat} {o : mO} : hGet (hPut h a o) a = some o := by simp [hGet, hPut]
theorem hGet_put_ne {h : mH} {a b : Nat} {o : mO} {x : Option mO} (hne : b ≠ a) (k : hGet h b = x) : hGet (hPut h a o) b = x := by
  have : hGet (hPut h a o) b = hGet h b := by simp [hGet, hPut, hne]
  rw [this]; exact k
theorem hGet_new_self {h : mH} {n : Nat} {o : mO} : hGet (hNew h n o) h.2.1 = some o := by simp [hGet, hNew]
theorem hGet_new_ne {h : mH} {n b : Nat} {o : mO} {x : Option mO} (hne : b ≠ h.2.1) (k : hGet h b = x) : hGet (hNew h n o) b = x := by
  have : hGet (hNew h n o) b = hGet h b := by simp [hGet, hNew, hne]
  rw [this]; exact k
theorem narrow_rf (ty : FieldType) (r : Option Nat) : narrow ty (va_rf r) = va_rf r := by cases r <;> cases ty <;> rfl
theorem fits_rf (C : String) (r : Option Nat) : fits (.object C) (va_rf r) = true := by cases r <;> rfl
/-- the same heap but for some cells -/
def Same (P : Nat → Prop) (h h' : mH) : Prop := h'.1 = h.1 ∧ h'.2.1 = h.2.1 ∧ h'.2.2.1 = h.2.2.1 ∧ ∀ b, ¬ P b → hGet h' b = hGet h b
theorem Same.refl {P : Nat → Prop} {h : mH} : Same P h h := ⟨rfl, rfl, rfl, fun _ _ => rfl⟩
theorem Same.put {P : Nat → Prop} {h h' : mH} {a : Nat} {o : mO} (k : Same P h h') (ha : P a) : Same P h (hPut h' a o) :=
  ⟨k.1, k.2.1, k.2.2.1, fun b hb => hGet_put_ne (fun e => hb (by rw [e]; exact ha)) (k.2.2.2 b hb)⟩
theorem Same.trans {P : Nat → Prop} {h h1 h2 : mH} (k : Same P h h1) (k2 : Same P h1 h2) : Same P h h2 :=
  ⟨k2.1.trans k.1, k2.2.1.trans k.2.1, k2.2.2.1.trans k.2.2.1, fun b hb => (k2.2.2.2 b hb).trans (k.2.2.2 b hb)⟩
theorem Same.mono {P P' : Nat → Prop} {h h1 : mH} (k : Same P h h1) (f : ∀ b, P b → P' b) : Same P' h h1 := ⟨k.1, k.2.1, k.2.2.1, fun b hb => k.2.2.2 b (fun q => hb (f b q))⟩
def b01 (p : Prop) [Decidable p] : Int := if p then 1 else 0
theorem b01_t {p : Prop} [Decidable p] (h : p) : b01 p = 1 := by simp [b01, h]
theorem b01_f {p : Prop} [Decidable p] (h : ¬ p) : b01 p = 0 := by simp [b01, h]
theorem b01_0 {p : Prop} [Decidable p] : (b01 p = 0) ↔ ¬ p := by by_cases h : p <;> simp [b01, h]
theorem b01_r {p : Prop} [Decidable p] : InR (b01 p) := by by_cases h : p <;> simp [b01, h] <;> decide
theorem vt {p : Prop} [Decidable p] (h : p) : some (Value.int (J 1)) = some (.int (J (b01 p))) := by rw [b01_t h]
theorem vf {p : Prop} [Decidable p] (h : ¬ p) : some (Value.int (J 0)) = some (.int (J (b01 p))) := by rw [b01_f h]
theorem nar_J0 : narrow .boolean (.int (J 0)) = .int (J 0) := by rw [← J_0]; decide +kernel
theorem nar_J1 : narrow .boolean (.int (J 1)) = .int (J 1) := by rw [← J_1]; decide +kernel
theorem nar_b01 {p : Prop} [Decidable p] : narrow .boolean (.int (J (b01 p))) = .int (J (b01 p)) := by
  by_cases h : p
  · rw [b01_t h]; exact nar_J1
  · rw [b01_f h]; exact nar_J0
def bz (b : Bool) : Int := b01 (b = true)
theorem bz_0 {b : Bool} : (bz b = 0) ↔ ¬ b = true := b01_0
theorem bz_r {b : Bool} : InR (bz b) := b01_r
theorem bz_t {b : Bool} (h : b = true) : bz b = 1 := b01_t h
theorem bz_f {b : Bool} (h : ¬ b = true) : bz b = 0 := b01_f h
theorem nar_bz {b : Bool} : narrow .boolean (.int (J (bz b))) = .int (J (bz b)) := nar_b01
theorem bz_d {p : Prop} [Decidable p] : bz (decide p) = b01 p := by by_cases h : p <;> simp [bz, b01, h]
section RJ
variable {G : mG} {l : Launch} {d : Nat} {M : mM} {pc : Nat} {ls : List (Option Value)} {st : List Value} {h : mH} {Q : Option Value → mH → Prop} {a b : Int}
theorem rj_iconst {n : Int} (hdg : decode M.2.1 pc = .ok (.iconst n, 1)) (K : RUN G l d M (pc + 1) ls (.int (J n) :: st) h Q) : RUN G l d M pc ls st h Q := r_iconst hdg (J_def n).symm K
theorem rj_bipush {n : Int} (hdg : decode M.2.1 pc = .ok (.bipush n, 2)) (hv : (Int8.ofInt n).toInt32 = Int32.ofInt n) (K : RUN G l d M (pc + 2) ls (.int (J n) :: st) h Q) : RUN G l d M pc ls st h Q := r_bipush hdg (hv.trans (J_def n).symm) K
theorem rj_sipush {n : Int} (hdg : decode M.2.1 pc = .ok (.sipush n, 3)) (hv : (Int16.ofInt n).toInt32 = Int32.ofInt n) (K : RUN G l d M (pc + 3) ls (.int (J n) :: st) h Q) : RUN G l d M pc ls st h Q := r_sipush hdg (hv.trans (J_def n).symm) K
theorem rj_ldc {index : Nat} {v : Int32} (n : Int) (hdg : decode M.2.1 pc = .ok (.ldc index, 2)) (hw : Jvm.Cond.constant M.1.cls index v ∈ lw_use) (hv : v = Int32.ofInt n) (K : RUN G l d M (pc + 2) ls (.int (J n) :: st) h Q) : RUN G l d M pc ls st h Q := by
  rw [← J_def] at hv
  subst hv
  exact r_ldc hdg hw K
theorem rj_iinc {i : Nat} {n : Int} (hdg : decode M.2.1 pc = .ok (.iinc i n, 3)) (hn : i < M.2.2.1) (hl : ls[i]? = some (some (.int (J a)))) (K : RUN G l d M (pc + 3) (lsSt ls i (.int (J (a + n)))) st h Q) : RUN G l d M pc ls st h Q := r_iinc hdg hn hl (by rw [← J_def]; exact J_add a n) K
theorem rj_iadd (hdg : decode M.2.1 pc = .ok (.iadd, 1)) (K : RUN G l d M (pc + 1) ls (.int (J (a + b)) :: st) h Q) : RUN G l d M pc ls (.int (J b) :: .int (J a) :: st) h Q := r_iadd hdg (by rw [J_add]; exact K)
theorem rj_isub (hdg : decode M.2.1 pc = .ok (.isub, 1)) (K : RUN G l d M (pc + 1) ls (.int (J (a - b)) :: st) h Q) : RUN G l d M pc ls (.int (J b) :: .int (J a) :: st) h Q := r_isub hdg (by rw [J_sub]; exact K)
theorem rj_imul (hdg : decode M.2.1 pc = .ok (.imul, 1)) (K : RUN G l d M (pc + 1) ls (.int (J (a * b)) :: st) h Q) : RUN G l d M pc ls (.int (J b) :: .int (J a) :: st) h Q := r_imul hdg (by rw [J_mul]; exact K)
theorem rj_ineg (hdg : decode M.2.1 pc = .ok (.ineg, 1)) (K : RUN G l d M (pc + 1) ls (.int (J (-a)) :: st) h Q) : RUN G l d M pc ls (.int (J a) :: st) h Q := r_ineg hdg (by rw [J_neg]; exact K)
theorem rj_if_eq {off : Int} {tgt : Nat} (hdg : decode M.2.1 pc = .ok (.ifCond .eq off, 3)) (ht : (pc : Int) + off = (tgt : Int)) (ha : InR a) (kt : a = 0 → RUN G l d M tgt ls st h Q) (kf : ¬ a = 0 → RUN G l d M (pc + 3) ls st h Q) : RUN G l d M pc ls (.int (J a) :: st) h Q := by
  have e : (J a = J 0) ↔ a = 0 := (J_inj ha ⟨by decide, by decide⟩)
  rw [← J_0] at e
  exact r_if_eq hdg ht (fun q => kt (e.mp q)) (fun q => kf (fun z => q (e.mpr z)))
theorem rj_icmp_eq {off : Int} {tgt : Nat} (hdg : decode M.2.1 pc = .ok (.if_icmp .eq off, 3)) (ht : (pc : Int) + off = (tgt : Int)) (ha : InR a) (hb : InR b) (kt : a = b → RUN G l d M tgt ls st h Q) (kf : ¬ a = b → RUN G l d M (pc + 3) ls st h Q) : RUN G l d M pc ls (.int (J b) :: .int (J a) :: st) h Q := by
  have e := (J_inj ha hb)
  exact r_icmp_eq hdg ht (fun q => kt (e.mp q)) (fun q => kf (fun z => q (e.mpr z)))
theorem rj_if_ne {off : Int} {tgt : Nat} (hdg : decode M.2.1 pc = .ok (.ifCond .ne off, 3)) (ht : (pc : Int) + off = (tgt : Int)) (ha : InR a) (kt : ¬ a = 0 → RUN G l d M tgt ls st h Q) (kf : a = 0 → RUN G l d M (pc + 3) ls st h Q) : RUN G l d M pc ls (.int (J a) :: st) h Q := by
  have e : (J a = J 0) ↔ a = 0 := (J_inj ha ⟨by decide, by decide⟩)
  rw [← J_0] at e
  exact r_if_ne hdg ht (fun q => kt (fun z => q (e.mpr z))) (fun q => kf (e.mp q))
theorem rj_icmp_ne {off : Int} {tgt : Nat} (hdg : decode M.2.1 pc = .ok (.if_icmp .ne off, 3)) (ht : (pc : Int) + off = (tgt : Int)) (ha : InR a) (hb : InR b) (kt : ¬ a = b → RUN G l d M tgt ls st h Q) (kf : a = b → RUN G l d M (pc + 3) ls st h Q) : RUN G l d M pc ls (.int (J b) :: .int (J a) :: st) h Q := by
  have e := (J_inj ha hb)
  exact r_icmp_ne hdg ht (fun q => kt (fun z => q (e.mpr z))) (fun q => kf (e.mp q))
theorem rj_if_lt {off : Int} {tgt : Nat} (hdg : decode M.2.1 pc = .ok (.ifCond .lt off, 3)) (ht : (pc : Int) + off = (tgt : Int)) (ha : InR a) (kt : a < 0 → RUN G l d M tgt ls st h Q) (kf : ¬ a < 0 → RUN G l d M (pc + 3) ls st h Q) : RUN G l d M pc ls (.int (J a) :: st) h Q := by
  have e : (J a < J 0) ↔ a < 0 := (J_lt ha ⟨by decide, by decide⟩)
  rw [← J_0] at e
  exact r_if_lt hdg ht (fun q => kt (e.mp q)) (fun q => kf (fun z => q (e.mpr z)))
theorem rj_icmp_lt {off : Int} {tgt : Nat} (hdg : decode M.2.1 pc = .ok (.if_icmp .lt off, 3)) (ht : (pc : Int) + off = (tgt : Int)) (ha : InR a) (hb : InR b) (kt : a < b → RUN G l d M tgt ls st h Q) (kf : ¬ a < b → RUN G l d M (pc + 3) ls st h Q) : RUN G l d M pc ls (.int (J b) :: .int (J a) :: st) h Q := by
  have e := (J_lt ha hb)
  exact r_icmp_lt hdg ht (fun q => kt (e.mp q)) (fun q => kf (fun z => q (e.mpr z)))
theorem rj_if_ge {off : Int} {tgt : Nat} (hdg : decode M.2.1 pc = .ok (.ifCond .ge off, 3)) (ht : (pc : Int) + off = (tgt : Int)) (ha : InR a) (kt : 0 ≤ a → RUN G l d M tgt ls st h Q) (kf : ¬ 0 ≤ a → RUN G l d M (pc + 3) ls st h Q) : RUN G l d M pc ls (.int (J a) :: st) h Q := by
  have e : (J 0 ≤ J a) ↔ 0 ≤ a := (J_le ⟨by decide, by decide⟩ ha)
  rw [← J_0] at e
  exact r_if_ge hdg ht (fun q => kt (e.mp q)) (fun q => kf (fun z => q (e.mpr z)))
theorem rj_icmp_ge {off : Int} {tgt : Nat} (hdg : decode M.2.1 pc = .ok (.if_icmp .ge off, 3)) (ht : (pc : Int) + off = (tgt : Int)) (ha : InR a) (hb : InR b) (kt : b ≤ a → RUN G l d M tgt ls st h Q) (kf : ¬ b ≤ a → RUN G l d M (pc + 3) ls st h Q) : RUN G l d M pc ls (.int (J b) :: .int (J a) :: st) h Q := by
  have e := (J_le hb ha)
  exact r_icmp_ge hdg ht (fun q => kt (e.mp q)) (fun q => kf (fun z => q (e.mpr z)))
theorem rj_if_gt {off : Int} {tgt : Nat} (hdg : decode M.2.1 pc = .ok (.ifCond .gt off, 3)) (ht : (pc : Int) + off = (tgt : Int)) (ha : InR a) (kt : 0 < a → RUN G l d M tgt ls st h Q) (kf : ¬ 0 < a → RUN G l d M (pc + 3) ls st h Q) : RUN G l d M pc ls (.int (J a) :: st) h Q := by
  have e : (J 0 < J a) ↔ 0 < a := (J_lt ⟨by decide, by decide⟩ ha)
  rw [← J_0] at e
  exact r_if_gt hdg ht (fun q => kt (e.mp q)) (fun q => kf (fun z => q (e.mpr z)))
theorem rj_icmp_gt {off : Int} {tgt : Nat} (hdg : decode M.2.1 pc = .ok (.if_icmp .gt off, 3)) (ht : (pc : Int) + off = (tgt : Int)) (ha : InR a) (hb : InR b) (kt : b < a → RUN G l d M tgt ls st h Q) (kf : ¬ b < a → RUN G l d M (pc + 3) ls st h Q) : RUN G l d M pc ls (.int (J b) :: .int (J a) :: st) h Q := by
  have e := (J_lt hb ha)
  exact r_icmp_gt hdg ht (fun q => kt (e.mp q)) (fun q => kf (fun z => q (e.mpr z)))
theorem rj_if_le {off : Int} {tgt : Nat} (hdg : decode M.2.1 pc = .ok (.ifCond .le off, 3)) (ht : (pc : Int) + off = (tgt : Int)) (ha : InR a) (kt : a ≤ 0 → RUN G l d M tgt ls st h Q) (kf : ¬ a ≤ 0 → RUN G l d M (pc + 3) ls st h Q) : RUN G l d M pc ls (.int (J a) :: st) h Q := by
  have e : (J a ≤ J 0) ↔ a ≤ 0 := (J_le ha ⟨by decide, by decide⟩)
  rw [← J_0] at e
  exact r_if_le hdg ht (fun q => kt (e.mp q)) (fun q => kf (fun z => q (e.mpr z)))
theorem rj_icmp_le {off : Int} {tgt : Nat} (hdg : decode M.2.1 pc = .ok (.if_icmp .le off, 3)) (ht : (pc : Int) + off = (tgt : Int)) (ha : InR a) (hb : InR b) (kt : a ≤ b → RUN G l d M tgt ls st h Q) (kf : ¬ a ≤ b → RUN G l d M (pc + 3) ls st h Q) : RUN G l d M pc ls (.int (J b) :: .int (J a) :: st) h Q := by
  have e := (J_le ha hb)
  exact r_icmp_le hdg ht (fun q => kt (e.mp q)) (fun q => kf (fun z => q (e.mpr z)))
theorem rj_iald {c n j : Nat} {f : Nat → Int} (hdg : decode M.2.1 pc = .ok (.iaload, 1)) (ho : hGet h c = some (.inr (.inl (n, fun q => J (f q))))) (hr : InR a) (h0 : 0 ≤ a) (h1 : a < n) (hj : a.toNat = j) (K : RUN G l d M (pc + 1) ls (.int (J (f j)) :: st) h Q) : RUN G l d M pc ls (.int (J a) :: .ref c :: st) h Q :=
  r_iald hdg ho (J_in hr h0 h1) (by rw [J_cl h0 hr, hj]; exact K)
theorem rj_iast {c n : Nat} {f : Nat → Int} (hdg : decode M.2.1 pc = .ok (.iastore, 1)) (ho : hGet h c = some (.inr (.inl (n, fun q => J (f q))))) (hlo : h.1 ≤ c) (hr : InR a) (h0 : 0 ≤ a) (h1 : a < n) (K : RUN G l d M (pc + 1) ls st (hPut h c (.inr (.inl (n, fun q => J (updI f a.toNat b q))))) Q) : RUN G l d M pc ls (.int (J b) :: .int (J a) :: .ref c :: st) h Q :=
  r_iast hdg ho hlo (J_in hr h0 h1) (by rw [J_cl h0 hr, J_upd]; exact K)
theorem rj_alen {c n : Nat} {f : Nat → Int32} (hdg : decode M.2.1 pc = .ok (.arraylength, 1)) (ho : hGet h c = some (.inr (.inl (n, f)))) (K : RUN G l d M (pc + 1) ls (.int (J (n : Int)) :: st) h Q) : RUN G l d M pc ls (.ref c :: st) h Q := r_alenI hdg ho (by rw [J_nat]; exact K)
theorem rj_aald {c t n : Nat} {f : Nat → Option Nat} (hdg : decode M.2.1 pc = .ok (.aaload, 1)) (ho : hGet h c = some (.inr (.inr (t, n, f)))) (hr : InR a) (h0 : 0 ≤ a) (h1 : a < n) (K : RUN G l d M (pc + 1) ls (va_rf (f a.toNat) :: st) h Q) : RUN G l d M pc ls (.int (J a) :: .ref c :: st) h Q :=
  r_aald hdg ho (J_in hr h0 h1) (by rw [J_cl h0 hr]; exact K)
theorem rj_newaI {n : Int} (hdg : decode M.2.1 pc = .ok (.newarray .int, 2)) (hG : G.2.map Prod.snd = mTy) (hn : 0 ≤ n) (hm : n < 100000) (K : RUN G l d M (pc + 2) ls (.ref h.2.1 :: st) (hNew h n.toNat (.inr (.inl (n.toNat, fun _ => J 0)))) Q) : RUN G l d M pc ls (.int (J n) :: st) h Q :=
  r_newaI hdg hG w_int (by rw [J_0, J_lt ⟨by omega, by omega⟩ ⟨by decide, by decide⟩]; omega) (J_cl hn ⟨by omega, by omega⟩) (by omega) (by rw [J_0]; exact K)
theorem rj_lsw {dflt : Int} {ps : List (Int × Int)} {len : Nat} (hdg : decode M.2.1 pc = .ok (.lookupswitch dflt ps.toArray, len)) (hp : (ps.zip (ps.drop 1)).all (fun (a, next) => a.1 < next.1) = true) (ha : InR a) (hpos : 0 ≤ (pc : Int) + Op.lookupswitch.offset ps dflt a) (K : ∀ (off : Int) (tgt : Nat), Op.lookupswitch.offset ps dflt a = off → (pc : Int) + off = (tgt : Int) → RUN G l d M tgt ls st h Q) : RUN G l d M pc ls (.int (J a) :: st) h Q :=
  r_lsw hdg (by simpa using hp) (off := Op.lookupswitch.offset ps dflt a) (tgt := ((pc : Int) + Op.lookupswitch.offset ps dflt a).toNat) (by rw [J_toInt ha]) (by omega) (K _ _ rfl (by omega))
def tswOff (d lo hi : Int) (offs : List Int) (a : Int) : Int := if a < lo ∨ hi < a then d else offs.getD (a - lo).toNat 0
theorem rj_tsw {dflt lo hi : Int} {offs : List Int} {len : Nat} (hdg : decode M.2.1 pc = .ok (.tableswitch dflt lo hi offs.toArray, len)) (ha : InR a) (hl : hi - lo < (offs.length : Int)) (hpos : 0 ≤ (pc : Int) + dflt) (hposs : ∀ o ∈ offs, 0 ≤ (pc : Int) + o) (K : ∀ (off : Int) (tgt : Nat), tswOff dflt lo hi offs a = off → (pc : Int) + off = (tgt : Int) → RUN G l d M tgt ls st h Q) : RUN G l d M pc ls (.int (J a) :: st) h Q := by
  by_cases c : a < lo ∨ hi < a
  · exact r_tswOut hdg (by rw [J_toInt ha]; exact c) (tgt := ((pc : Int) + dflt).toNat) (by omega) (K _ _ (by unfold tswOff; rw [if_pos c]) (by omega))
  · have hi2 : (a - lo).toNat < offs.length := by omega
    have ho : offs[(a - lo).toNat]? = some (offs.getD (a - lo).toNat 0) := by rw [List.getD_eq_getElem?_getD, List.getElem?_eq_getElem hi2]; rfl
    obtain ⟨v, hv⟩ : ∃ v, offs.getD (a - lo).toNat 0 = v := ⟨_, rfl⟩
    rw [hv] at ho
    have hp := hposs v (List.mem_of_getElem? ho)
    exact r_tswIn hdg (by rw [J_toInt ha]; omega) (by rw [J_toInt ha]; omega) (by rw [J_toInt ha]; simpa using ho) (tgt := ((pc : Int) + v).toNat) (by omega) (K v _ (by unfold tswOff; rw [if_neg c, hv]) (by omega))
end RJ
theorem lsw_pos {p dflt a : Int} : ∀ ps : List (Int × Int), (∀ x ∈ ps, 0 ≤ p + x.2) → 0 ≤ p + dflt → 0 ≤ p + Op.lookupswitch.offset ps dflt a
  | [], _, h => by rw [Op.lookupswitch.offset_nil]; exact h
  | (k, o) :: ps, g, h => by
    rw [Op.lookupswitch.offset_cons]
    split
    · exact g (k, o) List.mem_cons_self
    · exact lsw_pos ps (fun y hy => g y (List.mem_cons_of_mem _ hy)) h
end mg_06
section mg_20
/-! ===== the reference's world: an object with 21 fields, nine rows of ints behind it ===== -/
def mAd (x k : Nat) : Nat := x + 1 + k
noncomputable def mFs (x : Nat) (f4 f6 f8 f9 f10 f11 f12 f13 f14 f16 f18 : Int) (s : Nat) : List Value := [.ref (mAd x 0), .ref (mAd x 1), .ref (mAd x 2), .ref (mAd x 3), .int (J f4), .ref (mAd x 4), .int (J f6), .ref (mAd x s), .int (J f8), .int (J f9), .int (J f10), .int (J f11), .int (J f12), .int (J f13), .int (J f14), .ref (mAd x 5), .int (J f16), .ref (mAd x 6), .int (J f18), .ref (mAd x 7), .ref (mAd x 8)]
def isM (h : mH) (x : Nat) (fs : List Value) (m kp was pool tape pln pap rwd rw : Nat → Int) : Prop := h.1 ≤ x ∧ hGet h x = some (.inl (11, fs)) ∧ hGet h (mAd x 0) = some (.inr (.inl (2928, fun q => J (m q)))) ∧ hGet h (mAd x 1) = some (.inr (.inl (2928, fun q => J (kp q)))) ∧ hGet h (mAd x 2) = some (.inr (.inl (2928, fun q => J (was q)))) ∧ hGet h (mAd x 3) = some (.inr (.inl (12342, fun q => J (pool q)))) ∧ hGet h (mAd x 4) = some (.inr (.inl (120, fun q => J (tape q)))) ∧ hGet h (mAd x 5) = some (.inr (.inl (90, fun q => J (pln q)))) ∧ hGet h (mAd x 6) = some (.inr (.inl (120, fun q => J (pap q)))) ∧ hGet h (mAd x 7) = some (.inr (.inl (4, fun q => J (rwd q)))) ∧ hGet h (mAd x 8) = some (.inr (.inl (160, fun q => J (rw q))))
def mBlk (x : Nat) : Nat → Prop := fun b => x ≤ b ∧ b < x + 10
theorem mAd_ne {x k j : Nat} (h : k ≠ j) : mAd x k ≠ mAd x j := by unfold mAd; omega
theorem mAd_x {x k : Nat} : mAd x k ≠ x := by unfold mAd; omega
theorem x_mAd {x k : Nat} : x ≠ mAd x k := by unfold mAd; omega
theorem mAd_blk {x k : Nat} (h : k < 9) : mBlk x (mAd x k) := by unfold mBlk mAd; omega
theorem x_blk {x : Nat} : mBlk x x := by unfold mBlk; omega
section IM
variable {h : mH} {x : Nat} {fs : List Value} {m kp was pool tape pln pap rwd rw : Nat → Int}
theorem isM.lo (k : isM h x fs m kp was pool tape pln pap rwd rw) : h.1 ≤ x := k.1
theorem isM.loA (k : isM h x fs m kp was pool tape pln pap rwd rw) (j : Nat) : h.1 ≤ mAd x j := Nat.le_trans k.1 (by unfold mAd; omega)
theorem isM.gx (k : isM h x fs m kp was pool tape pln pap rwd rw) : hGet h x = some (.inl (11, fs)) := k.2.1
theorem isM.g0 (k : isM h x fs m kp was pool tape pln pap rwd rw) : hGet h (mAd x 0) = some (.inr (.inl (2928, fun q => J (m q)))) := k.2.2.1
theorem isM.g1 (k : isM h x fs m kp was pool tape pln pap rwd rw) : hGet h (mAd x 1) = some (.inr (.inl (2928, fun q => J (kp q)))) := k.2.2.2.1
theorem isM.g2 (k : isM h x fs m kp was pool tape pln pap rwd rw) : hGet h (mAd x 2) = some (.inr (.inl (2928, fun q => J (was q)))) := k.2.2.2.2.1
theorem isM.g3 (k : isM h x fs m kp was pool tape pln pap rwd rw) : hGet h (mAd x 3) = some (.inr (.inl (12342, fun q => J (pool q)))) := k.2.2.2.2.2.1
theorem isM.g4 (k : isM h x fs m kp was pool tape pln pap rwd rw) : hGet h (mAd x 4) = some (.inr (.inl (120, fun q => J (tape q)))) := k.2.2.2.2.2.2.1
theorem isM.g5 (k : isM h x fs m kp was pool tape pln pap rwd rw) : hGet h (mAd x 5) = some (.inr (.inl (90, fun q => J (pln q)))) := k.2.2.2.2.2.2.2.1
theorem isM.g6 (k : isM h x fs m kp was pool tape pln pap rwd rw) : hGet h (mAd x 6) = some (.inr (.inl (120, fun q => J (pap q)))) := k.2.2.2.2.2.2.2.2.1
theorem isM.g7 (k : isM h x fs m kp was pool tape pln pap rwd rw) : hGet h (mAd x 7) = some (.inr (.inl (4, fun q => J (rwd q)))) := k.2.2.2.2.2.2.2.2.2.1
theorem isM.g8 (k : isM h x fs m kp was pool tape pln pap rwd rw) : hGet h (mAd x 8) = some (.inr (.inl (160, fun q => J (rw q)))) := k.2.2.2.2.2.2.2.2.2.2
theorem isM.putx (k : isM h x fs m kp was pool tape pln pap rwd rw) (fs' : List Value) : isM (hPut h x (.inl (11, fs'))) x fs' m kp was pool tape pln pap rwd rw := ⟨k.lo, hGet_put_self, hGet_put_ne mAd_x k.g0, hGet_put_ne mAd_x k.g1, hGet_put_ne mAd_x k.g2, hGet_put_ne mAd_x k.g3, hGet_put_ne mAd_x k.g4, hGet_put_ne mAd_x k.g5, hGet_put_ne mAd_x k.g6, hGet_put_ne mAd_x k.g7, hGet_put_ne mAd_x k.g8⟩
theorem isM.put0 (k : isM h x fs m kp was pool tape pln pap rwd rw) (m' : Nat → Int) : isM (hPut h (mAd x 0) (.inr (.inl (2928, fun q => J (m' q))))) x fs m' kp was pool tape pln pap rwd rw := ⟨k.lo, hGet_put_ne x_mAd k.gx, hGet_put_self, hGet_put_ne (mAd_ne (by decide)) k.g1, hGet_put_ne (mAd_ne (by decide)) k.g2, hGet_put_ne (mAd_ne (by decide)) k.g3, hGet_put_ne (mAd_ne (by decide)) k.g4, hGet_put_ne (mAd_ne (by decide)) k.g5, hGet_put_ne (mAd_ne (by decide)) k.g6, hGet_put_ne (mAd_ne (by decide)) k.g7, hGet_put_ne (mAd_ne (by decide)) k.g8⟩
theorem isM.put1 (k : isM h x fs m kp was pool tape pln pap rwd rw) (kp' : Nat → Int) : isM (hPut h (mAd x 1) (.inr (.inl (2928, fun q => J (kp' q))))) x fs m kp' was pool tape pln pap rwd rw := ⟨k.lo, hGet_put_ne x_mAd k.gx, hGet_put_ne (mAd_ne (by decide)) k.g0, hGet_put_self, hGet_put_ne (mAd_ne (by decide)) k.g2, hGet_put_ne (mAd_ne (by decide)) k.g3, hGet_put_ne (mAd_ne (by decide)) k.g4, hGet_put_ne (mAd_ne (by decide)) k.g5, hGet_put_ne (mAd_ne (by decide)) k.g6, hGet_put_ne (mAd_ne (by decide)) k.g7, hGet_put_ne (mAd_ne (by decide)) k.g8⟩
theorem isM.put2 (k : isM h x fs m kp was pool tape pln pap rwd rw) (was' : Nat → Int) : isM (hPut h (mAd x 2) (.inr (.inl (2928, fun q => J (was' q))))) x fs m kp was' pool tape pln pap rwd rw := ⟨k.lo, hGet_put_ne x_mAd k.gx, hGet_put_ne (mAd_ne (by decide)) k.g0, hGet_put_ne (mAd_ne (by decide)) k.g1, hGet_put_self, hGet_put_ne (mAd_ne (by decide)) k.g3, hGet_put_ne (mAd_ne (by decide)) k.g4, hGet_put_ne (mAd_ne (by decide)) k.g5, hGet_put_ne (mAd_ne (by decide)) k.g6, hGet_put_ne (mAd_ne (by decide)) k.g7, hGet_put_ne (mAd_ne (by decide)) k.g8⟩
theorem isM.put3 (k : isM h x fs m kp was pool tape pln pap rwd rw) (pool' : Nat → Int) : isM (hPut h (mAd x 3) (.inr (.inl (12342, fun q => J (pool' q))))) x fs m kp was pool' tape pln pap rwd rw := ⟨k.lo, hGet_put_ne x_mAd k.gx, hGet_put_ne (mAd_ne (by decide)) k.g0, hGet_put_ne (mAd_ne (by decide)) k.g1, hGet_put_ne (mAd_ne (by decide)) k.g2, hGet_put_self, hGet_put_ne (mAd_ne (by decide)) k.g4, hGet_put_ne (mAd_ne (by decide)) k.g5, hGet_put_ne (mAd_ne (by decide)) k.g6, hGet_put_ne (mAd_ne (by decide)) k.g7, hGet_put_ne (mAd_ne (by decide)) k.g8⟩
theorem isM.put4 (k : isM h x fs m kp was pool tape pln pap rwd rw) (tape' : Nat → Int) : isM (hPut h (mAd x 4) (.inr (.inl (120, fun q => J (tape' q))))) x fs m kp was pool tape' pln pap rwd rw := ⟨k.lo, hGet_put_ne x_mAd k.gx, hGet_put_ne (mAd_ne (by decide)) k.g0, hGet_put_ne (mAd_ne (by decide)) k.g1, hGet_put_ne (mAd_ne (by decide)) k.g2, hGet_put_ne (mAd_ne (by decide)) k.g3, hGet_put_self, hGet_put_ne (mAd_ne (by decide)) k.g5, hGet_put_ne (mAd_ne (by decide)) k.g6, hGet_put_ne (mAd_ne (by decide)) k.g7, hGet_put_ne (mAd_ne (by decide)) k.g8⟩
theorem isM.put5 (k : isM h x fs m kp was pool tape pln pap rwd rw) (pln' : Nat → Int) : isM (hPut h (mAd x 5) (.inr (.inl (90, fun q => J (pln' q))))) x fs m kp was pool tape pln' pap rwd rw := ⟨k.lo, hGet_put_ne x_mAd k.gx, hGet_put_ne (mAd_ne (by decide)) k.g0, hGet_put_ne (mAd_ne (by decide)) k.g1, hGet_put_ne (mAd_ne (by decide)) k.g2, hGet_put_ne (mAd_ne (by decide)) k.g3, hGet_put_ne (mAd_ne (by decide)) k.g4, hGet_put_self, hGet_put_ne (mAd_ne (by decide)) k.g6, hGet_put_ne (mAd_ne (by decide)) k.g7, hGet_put_ne (mAd_ne (by decide)) k.g8⟩
theorem isM.put6 (k : isM h x fs m kp was pool tape pln pap rwd rw) (pap' : Nat → Int) : isM (hPut h (mAd x 6) (.inr (.inl (120, fun q => J (pap' q))))) x fs m kp was pool tape pln pap' rwd rw := ⟨k.lo, hGet_put_ne x_mAd k.gx, hGet_put_ne (mAd_ne (by decide)) k.g0, hGet_put_ne (mAd_ne (by decide)) k.g1, hGet_put_ne (mAd_ne (by decide)) k.g2, hGet_put_ne (mAd_ne (by decide)) k.g3, hGet_put_ne (mAd_ne (by decide)) k.g4, hGet_put_ne (mAd_ne (by decide)) k.g5, hGet_put_self, hGet_put_ne (mAd_ne (by decide)) k.g7, hGet_put_ne (mAd_ne (by decide)) k.g8⟩
theorem isM.put7 (k : isM h x fs m kp was pool tape pln pap rwd rw) (rwd' : Nat → Int) : isM (hPut h (mAd x 7) (.inr (.inl (4, fun q => J (rwd' q))))) x fs m kp was pool tape pln pap rwd' rw := ⟨k.lo, hGet_put_ne x_mAd k.gx, hGet_put_ne (mAd_ne (by decide)) k.g0, hGet_put_ne (mAd_ne (by decide)) k.g1, hGet_put_ne (mAd_ne (by decide)) k.g2, hGet_put_ne (mAd_ne (by decide)) k.g3, hGet_put_ne (mAd_ne (by decide)) k.g4, hGet_put_ne (mAd_ne (by decide)) k.g5, hGet_put_ne (mAd_ne (by decide)) k.g6, hGet_put_self, hGet_put_ne (mAd_ne (by decide)) k.g8⟩
theorem isM.put8 (k : isM h x fs m kp was pool tape pln pap rwd rw) (rw' : Nat → Int) : isM (hPut h (mAd x 8) (.inr (.inl (160, fun q => J (rw' q))))) x fs m kp was pool tape pln pap rwd rw' := ⟨k.lo, hGet_put_ne x_mAd k.gx, hGet_put_ne (mAd_ne (by decide)) k.g0, hGet_put_ne (mAd_ne (by decide)) k.g1, hGet_put_ne (mAd_ne (by decide)) k.g2, hGet_put_ne (mAd_ne (by decide)) k.g3, hGet_put_ne (mAd_ne (by decide)) k.g4, hGet_put_ne (mAd_ne (by decide)) k.g5, hGet_put_ne (mAd_ne (by decide)) k.g6, hGet_put_ne (mAd_ne (by decide)) k.g7, hGet_put_self⟩
end IM
section RM
variable {G : mG} {l : Launch} {d : Nat} {M : mM} {pc : Nat} {ls : List (Option Value)} {st : List Value} {h : mH} {Q : Option Value → mH → Prop} {x : Nat} {fs : List Value} {m kp was pool tape pln pap rwd rw : Nat → Int}
theorem rm_getf {index k : Nat} {ty : FieldType} {fin : Bool} {v : Value} (hdg : decode M.2.1 pc = .ok (.getfield index, 3)) (hf : mFld M.1.cls index 11 k ty fin) (hB : isM h x fs m kp was pool tape pln pap rwd rw) (hv : fs[k]? = some v) (K : RUN G l d M (pc + 3) ls (v :: st) h Q) : RUN G l d M pc ls (.ref x :: st) h Q := r_getf hdg hf hB.gx hv K
theorem rm_putf {index k : Nat} {ty : FieldType} {v : Value} (hdg : decode M.2.1 pc = .ok (.putfield index, 3)) (hf : mFld M.1.cls index 11 k ty false) (hB : isM h x fs m kp was pool tape pln pap rwd rw) (hn : narrow ty v = v) (hfit : fits ty v = true) (hl : k < fs.length)
    (K : ∀ h1, isM h1 x (fs.set k v) m kp was pool tape pln pap rwd rw → Same (mBlk x) h h1 → RUN G l d M (pc + 3) ls st h1 Q) : RUN G l d M pc ls (v :: .ref x :: st) h Q :=
  r_putf hdg hf hB.gx hB.lo hn hfit hl (K _ (hB.putx _) (Same.refl.put x_blk))
theorem rm_iast0 {i v : Int} {j : Nat} (hdg : decode M.2.1 pc = .ok (.iastore, 1)) (hB : isM h x fs m kp was pool tape pln pap rwd rw) (hr : InR i) (h0 : 0 ≤ i) (h1 : i < 2928) (hj : i.toNat = j)
    (K : ∀ h1, isM h1 x fs (updI m j v) kp was pool tape pln pap rwd rw → Same (mBlk x) h h1 → RUN G l d M (pc + 1) ls st h1 Q) : RUN G l d M pc ls (.int (J v) :: .int (J i) :: .ref (mAd x 0) :: st) h Q :=
  rj_iast hdg hB.g0 (hB.loA 0) hr h0 h1 (by rw [hj]; exact K _ (hB.put0 _) (Same.refl.put (mAd_blk (by decide))))
theorem rm_iast1 {i v : Int} {j : Nat} (hdg : decode M.2.1 pc = .ok (.iastore, 1)) (hB : isM h x fs m kp was pool tape pln pap rwd rw) (hr : InR i) (h0 : 0 ≤ i) (h1 : i < 2928) (hj : i.toNat = j)
    (K : ∀ h1, isM h1 x fs m (updI kp j v) was pool tape pln pap rwd rw → Same (mBlk x) h h1 → RUN G l d M (pc + 1) ls st h1 Q) : RUN G l d M pc ls (.int (J v) :: .int (J i) :: .ref (mAd x 1) :: st) h Q :=
  rj_iast hdg hB.g1 (hB.loA 1) hr h0 h1 (by rw [hj]; exact K _ (hB.put1 _) (Same.refl.put (mAd_blk (by decide))))
theorem rm_iast2 {i v : Int} {j : Nat} (hdg : decode M.2.1 pc = .ok (.iastore, 1)) (hB : isM h x fs m kp was pool tape pln pap rwd rw) (hr : InR i) (h0 : 0 ≤ i) (h1 : i < 2928) (hj : i.toNat = j)
    (K : ∀ h1, isM h1 x fs m kp (updI was j v) pool tape pln pap rwd rw → Same (mBlk x) h h1 → RUN G l d M (pc + 1) ls st h1 Q) : RUN G l d M pc ls (.int (J v) :: .int (J i) :: .ref (mAd x 2) :: st) h Q :=
  rj_iast hdg hB.g2 (hB.loA 2) hr h0 h1 (by rw [hj]; exact K _ (hB.put2 _) (Same.refl.put (mAd_blk (by decide))))
theorem rm_iast3 {i v : Int} {j : Nat} (hdg : decode M.2.1 pc = .ok (.iastore, 1)) (hB : isM h x fs m kp was pool tape pln pap rwd rw) (hr : InR i) (h0 : 0 ≤ i) (h1 : i < 12342) (hj : i.toNat = j)
    (K : ∀ h1, isM h1 x fs m kp was (updI pool j v) tape pln pap rwd rw → Same (mBlk x) h h1 → RUN G l d M (pc + 1) ls st h1 Q) : RUN G l d M pc ls (.int (J v) :: .int (J i) :: .ref (mAd x 3) :: st) h Q :=
  rj_iast hdg hB.g3 (hB.loA 3) hr h0 h1 (by rw [hj]; exact K _ (hB.put3 _) (Same.refl.put (mAd_blk (by decide))))
theorem rm_iast4 {i v : Int} {j : Nat} (hdg : decode M.2.1 pc = .ok (.iastore, 1)) (hB : isM h x fs m kp was pool tape pln pap rwd rw) (hr : InR i) (h0 : 0 ≤ i) (h1 : i < 120) (hj : i.toNat = j)
    (K : ∀ h1, isM h1 x fs m kp was pool (updI tape j v) pln pap rwd rw → Same (mBlk x) h h1 → RUN G l d M (pc + 1) ls st h1 Q) : RUN G l d M pc ls (.int (J v) :: .int (J i) :: .ref (mAd x 4) :: st) h Q :=
  rj_iast hdg hB.g4 (hB.loA 4) hr h0 h1 (by rw [hj]; exact K _ (hB.put4 _) (Same.refl.put (mAd_blk (by decide))))
theorem rm_iast5 {i v : Int} {j : Nat} (hdg : decode M.2.1 pc = .ok (.iastore, 1)) (hB : isM h x fs m kp was pool tape pln pap rwd rw) (hr : InR i) (h0 : 0 ≤ i) (h1 : i < 90) (hj : i.toNat = j)
    (K : ∀ h1, isM h1 x fs m kp was pool tape (updI pln j v) pap rwd rw → Same (mBlk x) h h1 → RUN G l d M (pc + 1) ls st h1 Q) : RUN G l d M pc ls (.int (J v) :: .int (J i) :: .ref (mAd x 5) :: st) h Q :=
  rj_iast hdg hB.g5 (hB.loA 5) hr h0 h1 (by rw [hj]; exact K _ (hB.put5 _) (Same.refl.put (mAd_blk (by decide))))
theorem rm_iast6 {i v : Int} {j : Nat} (hdg : decode M.2.1 pc = .ok (.iastore, 1)) (hB : isM h x fs m kp was pool tape pln pap rwd rw) (hr : InR i) (h0 : 0 ≤ i) (h1 : i < 120) (hj : i.toNat = j)
    (K : ∀ h1, isM h1 x fs m kp was pool tape pln (updI pap j v) rwd rw → Same (mBlk x) h h1 → RUN G l d M (pc + 1) ls st h1 Q) : RUN G l d M pc ls (.int (J v) :: .int (J i) :: .ref (mAd x 6) :: st) h Q :=
  rj_iast hdg hB.g6 (hB.loA 6) hr h0 h1 (by rw [hj]; exact K _ (hB.put6 _) (Same.refl.put (mAd_blk (by decide))))
theorem rm_iast7 {i v : Int} {j : Nat} (hdg : decode M.2.1 pc = .ok (.iastore, 1)) (hB : isM h x fs m kp was pool tape pln pap rwd rw) (hr : InR i) (h0 : 0 ≤ i) (h1 : i < 4) (hj : i.toNat = j)
    (K : ∀ h1, isM h1 x fs m kp was pool tape pln pap (updI rwd j v) rw → Same (mBlk x) h h1 → RUN G l d M (pc + 1) ls st h1 Q) : RUN G l d M pc ls (.int (J v) :: .int (J i) :: .ref (mAd x 7) :: st) h Q :=
  rj_iast hdg hB.g7 (hB.loA 7) hr h0 h1 (by rw [hj]; exact K _ (hB.put7 _) (Same.refl.put (mAd_blk (by decide))))
theorem rm_iast8 {i v : Int} {j : Nat} (hdg : decode M.2.1 pc = .ok (.iastore, 1)) (hB : isM h x fs m kp was pool tape pln pap rwd rw) (hr : InR i) (h0 : 0 ≤ i) (h1 : i < 160) (hj : i.toNat = j)
    (K : ∀ h1, isM h1 x fs m kp was pool tape pln pap rwd (updI rw j v) → Same (mBlk x) h h1 → RUN G l d M (pc + 1) ls st h1 Q) : RUN G l d M pc ls (.int (J v) :: .int (J i) :: .ref (mAd x 8) :: st) h Q :=
  rj_iast hdg hB.g8 (hB.loA 8) hr h0 h1 (by rw [hj]; exact K _ (hB.put8 _) (Same.refl.put (mAd_blk (by decide))))
end RM
end mg_20
section mg_21
/-! ===== contracts of the reference: the small ones ===== -/
end mg_21
