section mg_06
/-! ===== ints as whole numbers: J a is the int of the whole number a; what is computed stays in this form, comparisons ask for the range ===== -/
theorem J_ex : ∃ f : Int → Int32, ∀ a, f a = Int32.ofInt a := ⟨_, fun _ => rfl⟩
/-- chosen, so that nothing unfolds it -/
noncomputable def J : Int → Int32 := Classical.choose J_ex
theorem J_def (a : Int) : J a = Int32.ofInt a := Classical.choose_spec J_ex a
abbrev InR (a : Int) : Prop := -2147483648 ≤ a ∧ a < 2147483648
theorem J_toInt {a : Int} (h : InR a) : (J a).toInt = a := by rw [J_def]; exact Int32.toInt_ofInt_of_le h.1 h.2
theorem J_of (x : Int32) : x = J x.toInt := by rw [J_def]; exact (Int32.ofInt_toInt x).symm
theorem J_rg (x : Int32) : InR x.toInt := ⟨Int32.le_toInt x, Int32.toInt_lt x⟩
theorem J_add (a b : Int) : J a + J b = J (a + b) := by rw [J_def, J_def, J_def]; exact (Int32.ofInt_add a b).symm
theorem J_sub (a b : Int) : J a - J b = J (a - b) := by rw [J_def, J_def, J_def]; exact (Int32.ofInt_sub a b).symm
theorem J_mul (a b : Int) : J a * J b = J (a * b) := by rw [J_def, J_def, J_def]; exact (Int32.ofInt_mul a b).symm
theorem J_neg (a : Int) : -J a = J (-a) := by rw [J_def, J_def]; exact (Int32.ofInt_neg a).symm
theorem J_inj {a b : Int} (ha : InR a) (hb : InR b) : J a = J b ↔ a = b := ⟨fun h => by rw [← J_toInt ha, h, J_toInt hb], fun h => by rw [h]⟩
theorem J_lt {a b : Int} (ha : InR a) (hb : InR b) : J a < J b ↔ a < b := by rw [Int32.lt_iff_toInt_lt, J_toInt ha, J_toInt hb]
theorem J_le {a b : Int} (ha : InR a) (hb : InR b) : J a ≤ J b ↔ a ≤ b := by rw [Int32.le_iff_toInt_le, J_toInt ha, J_toInt hb]
theorem J_0 : (0 : Int32) = J 0 := by rw [J_def]; decide +kernel
theorem J_1 : (1 : Int32) = J 1 := by rw [J_def]; decide +kernel
theorem J_nat (n : Nat) : Int32.ofNat n = J (n : Int) := by rw [J_def]; rfl
theorem J_cl {i : Int} (h0 : 0 ≤ i) (h : InR i) : (J i).toNatClampNeg = i.toNat := by
  show (J i).toInt.toNat = i.toNat
  rw [J_toInt h]
theorem J_in {i : Int} {n : Nat} (h : InR i) (h0 : 0 ≤ i) (h1 : i < n) : vp_in (J i) n := by
  intro q
  rcases q with q | q
  · rw [J_0, J_lt h (by constructor <;> omega)] at q
    omega
  · rw [J_cl h0 h] at q
    omega
def updI (f : Nat → Int) (k : Nat) (v : Int) : Nat → Int := fun q => if q = k then v else f q
theorem updI_s {f : Nat → Int} {k : Nat} {v : Int} : updI f k v k = v := by simp [updI]
theorem updI_n {f : Nat → Int} {k q : Nat} {v : Int} (h : q ≠ k) : updI f k v q = f q := by simp [updI, h]
theorem J_upd (f : Nat → Int) (k : Nat) (v : Int) : upd (fun q => J (f q)) k (J v) = fun q => J (updI f k v q) := by
  funext q
  by_cases h : q = k <;> simp [upd, updI, h]
theorem hGet_put_self {h : mH} {a : Nat} {o : mO} : hGet (hPut h a o) a = some o := by simp [hGet, hPut]
theorem hGet_put_ne {h : mH} {a b : Nat} {o : mO} {x : Option mO} (hne : b ≠ a) (k : hGet h b = x) : hGet (hPut h a o) b = x := by
  have : hGet (hPut h a o) b = hGet h b := by simp [hGet, hPut, hne]
  rw [this]; exact k
theorem hGet_new_self {h : mH} {n : Nat} {o : mO} : hGet (hNew h n o) h.2.1 = some o := by simp [hGet, hNew]
theorem hGet_new_ne {h : mH} {n b : Nat} {o : mO} {x : Option mO} (hne : b ≠ h.2.1) (k : hGet h b = x) : hGet (hNew h n o) b = x := by
  have : hGet (hNew h n o) b = hGet h b := by simp [hGet, hNew, hne]
  rw [this]; exact k
theorem narrow_rf (ty : FieldType) (r : Option Nat) : narrow ty (va_rf r) = va_rf r := by cases r <;> cases ty <;> rfl
theorem fits_rf (C : String) (r : Option Nat) : fits (.object C) (va_rf r) = true := by cases r <;> rfl
/-- the same heap but for some cells -/
def Same (P : Nat → Prop) (h h' : mH) : Prop := h'.1 = h.1 ∧ h'.2.1 = h.2.1 ∧ h'.2.2.1 = h.2.2.1 ∧ ∀ b, ¬ P b → hGet h' b = hGet h b
theorem Same.refl {P : Nat → Prop} {h : mH} : Same P h h := ⟨rfl, rfl, rfl, fun _ _ => rfl⟩
theorem Same.put {P : Nat → Prop} {h h' : mH} {a : Nat} {o : mO} (k : Same P h h') (ha : P a) : Same P h (hPut h' a o) :=
  ⟨k.1, k.2.1, k.2.2.1, fun b hb => hGet_put_ne (fun e => hb (by rw [e]; exact ha)) (k.2.2.2 b hb)⟩
theorem Same.trans {P : Nat → Prop} {h h1 h2 : mH} (k : Same P h h1) (k2 : Same P h1 h2) : Same P h h2 :=
  ⟨k2.1.trans k.1, k2.2.1.trans k.2.1, k2.2.2.1.trans k.2.2.1, fun b hb => (k2.2.2.2 b hb).trans (k.2.2.2 b hb)⟩
theorem Same.mono {P P' : Nat → Prop} {h h1 : mH} (k : Same P h h1) (f : ∀ b, P b → P' b) : Same P' h h1 := ⟨k.1, k.2.1, k.2.2.1, fun b hb => k.2.2.2 b (fun q => hb (f b q))⟩
def b01 (p : Prop) [Decidable p] : Int := if p then 1 else 0
theorem b01_t {p : Prop} [Decidable p] (h : p) : b01 p = 1 := by simp [b01, h]
theorem b01_f {p : Prop} [Decidable p] (h : ¬ p) : b01 p = 0 := by simp [b01, h]
theorem b01_0 {p : Prop} [Decidable p] : (b01 p = 0) ↔ ¬ p := by by_cases h : p <;> simp [b01, h]
theorem b01_r {p : Prop} [Decidable p] : InR (b01 p) := by by_cases h : p <;> simp [b01, h] <;> decide
theorem vt {p : Prop} [Decidable p] (h : p) : some (Value.int (J 1)) = some (.int (J (b01 p))) := by rw [b01_t h]
theorem vf {p : Prop} [Decidable p] (h : ¬ p) : some (Value.int (J 0)) = some (.int (J (b01 p))) := by rw [b01_f h]
theorem nar_J0 : narrow .boolean (.int (J 0)) = .int (J 0) := by rw [← J_0]; decide +kernel
theorem nar_J1 : narrow .boolean (.int (J 1)) = .int (J 1) := by rw [← J_1]; decide +kernel
theorem nar_b01 {p : Prop} [Decidable p] : narrow .boolean (.int (J (b01 p))) = .int (J (b01 p)) := by
  by_cases h : p
  · rw [b01_t h]; exact nar_J1
  · rw [b01_f h]; exact nar_J0
def bz (b : Bool) : Int := b01 (b = true)
theorem bz_0 {b : Bool} : (bz b = 0) ↔ ¬ b = true := b01_0
theorem bz_r {b : Bool} : InR (bz b) := b01_r
theorem bz_t {b : Bool} (h : b = true) : bz b = 1 := b01_t h
theorem bz_f {b : Bool} (h : ¬ b = true) : bz b = 0 := b01_f h
theorem nar_bz {b : Bool} : narrow .boolean (.int (J (bz b))) = .int (J (bz b)) := nar_b01
theorem bz_d {p : Prop} [Decidable p] : bz (decide p) = b01 p := by by_cases h : p <;> simp [bz, b01, h]
section RJ
variable {G : mG} {l : Launch} {d : Nat} {M : mM} {pc : Nat} {ls : List (Option Value)} {st : List Value} {h : mH} {Q : Option Value → mH → Prop} {a b : Int}
theorem rj_iconst {n : Int} (hdg : decode M.2.1 pc = .ok (.iconst n, 1)) (K : RUN G l d M (pc + 1) ls (.int (J n) :: st) h Q) : RUN G l d M pc ls st h Q := r_iconst hdg (J_def n).symm K
theorem rj_bipush {n : Int} (hdg : decode M.2.1 pc = .ok (.bipush n, 2)) (hv : (Int8.ofInt n).toInt32 = Int32.ofInt n) (K : RUN G l d M (pc + 2) ls (.int (J n) :: st) h Q) : RUN G l d M pc ls st h Q := r_bipush hdg (hv.trans (J_def n).symm) K
theorem rj_sipush {n : Int} (hdg : decode M.2.1 pc = .ok (.sipush n, 3)) (hv : (Int16.ofInt n).toInt32 = Int32.ofInt n) (K : RUN G l d M (pc + 3) ls (.int (J n) :: st) h Q) : RUN G l d M pc ls st h Q := r_sipush hdg (hv.trans (J_def n).symm) K
theorem rj_ldc {index : Nat} {v : Int32} (n : Int) (hdg : decode M.2.1 pc = .ok (.ldc index, 2)) (hw : Jvm.Cond.constant M.1.cls index v ∈ lw_use) (hv : v = Int32.ofInt n) (K : RUN G l d M (pc + 2) ls (.int (J n) :: st) h Q) : RUN G l d M pc ls st h Q := by
  rw [← J_def] at hv
  subst hv
  exact r_ldc hdg hw K
theorem rj_iinc {i : Nat} {n : Int} (hdg : decode M.2.1 pc = .ok (.iinc i n, 3)) (hn : i < M.2.2.1) (hl : ls[i]? = some (some (.int (J a)))) (K : RUN G l d M (pc + 3) (lsSt ls i (.int (J (a + n)))) st h Q) : RUN G l d M pc ls st h Q := r_iinc hdg hn hl (by rw [← J_def]; exact J_add a n) K
theorem rj_iadd (hdg : decode M.2.1 pc = .ok (.iadd, 1)) (K : RUN G l d M (pc + 1) ls (.int (J (a + b)) :: st) h Q) : RUN G l d M pc ls (.int (J b) :: .int (J a) :: st) h Q := r_iadd hdg (by rw [J_add]; exact K)
theorem rj_isub (hdg : decode M.2.1 pc = .ok (.isub, 1)) (K : RUN G l d M (pc + 1) ls (.int (J (a - b)) :: st) h Q) : RUN G l d M pc ls (.int (J b) :: .int (J a) :: st) h Q := r_isub hdg (by rw [J_sub]; exact K)
theorem rj_imul (hdg : decode M.2.1 pc = .ok (.imul, 1)) (K : RUN G l d M (pc + 1) ls (.int (J (a * b)) :: st) h Q) : RUN G l d M pc ls (.int (J b) :: .int (J a) :: st) h Q := r_imul hdg (by rw [J_mul]; exact K)
theorem rj_ineg (hdg : decode M.2.1 pc = .ok (.ineg, 1)) (K : RUN G l d M (pc + 1) ls (.int (J (-a)) :: st) h Q) : RUN G l d M pc ls (.int (J a) :: st) h Q := r_ineg hdg (by rw [J_neg]; exact K)
theorem rj_if_eq {off : Int} {tgt : Nat} (hdg : decode M.2.1 pc = .ok (.ifCond .eq off, 3)) (ht : (pc : Int) + off = (tgt : Int)) (ha : InR a) (kt : a = 0 → RUN G l d M tgt ls st h Q) (kf : ¬ a = 0 → RUN G l d M (pc + 3) ls st h Q) : RUN G l d M pc ls (.int (J a) :: st) h Q := by
  have e : (J a = J 0) ↔ a = 0 := (J_inj ha ⟨by decide, by decide⟩)
  rw [← J_0] at e
  exact r_if_eq hdg ht (fun q => kt (e.mp q)) (fun q => kf (fun z => q (e.mpr z)))
theorem rj_icmp_eq {off : Int} {tgt : Nat} (hdg : decode M.2.1 pc = .ok (.if_icmp .eq off, 3)) (ht : (pc : Int) + off = (tgt : Int)) (ha : InR a) (hb : InR b) (kt : a = b → RUN G l d M tgt ls st h Q) (kf : ¬ a = b → RUN G l d M (pc + 3) ls st h Q) : RUN G l d M pc ls (.int (J b) :: .int (J a) :: st) h Q := by
  have e := (J_inj ha hb)
  exact r_icmp_eq hdg ht (fun q => kt (e.mp q)) (fun q => kf (fun z => q (e.mpr z)))
theorem rj_if_ne {off : Int} {tgt : Nat} (hdg : decode M.2.1 pc = .ok (.ifCond .ne off, 3)) (ht : (pc : Int) + off = (tgt : Int)) (ha : InR a) (kt : ¬ a = 0 → RUN G l d M tgt ls st h Q) (kf : a = 0 → RUN G l d M (pc + 3) ls st h Q) : RUN G l d M pc ls (.int (J a) :: st) h Q := by
  have e : (J a = J 0) ↔ a = 0 := (J_inj ha ⟨by decide, by decide⟩)
  rw [← J_0] at e
  exact r_if_ne hdg ht (fun q => kt (fun z => q (e.mpr z))) (fun q => kf (e.mp q))
theorem rj_icmp_ne {off : Int} {tgt : Nat} (hdg : decode M.2.1 pc = .ok (.if_icmp .ne off, 3)) (ht : (pc : Int) + off = (tgt : Int)) (ha : InR a) (hb : InR b) (kt : ¬ a = b → RUN G l d M tgt ls st h Q) (kf : a = b → RUN G l d M (pc + 3) ls st h Q) : RUN G l d M pc ls (.int (J b) :: .int (J a) :: st) h Q := by
  have e := (J_inj ha hb)
  exact r_icmp_ne hdg ht (fun q => kt (fun z => q (e.mpr z))) (fun q => kf (e.mp q))
theorem rj_if_lt {off : Int} {tgt : Nat} (hdg : decode M.2.1 pc = .ok (.ifCond .lt off, 3)) (ht : (pc : Int) + off = (tgt : Int)) (ha : InR a) (kt : a < 0 → RUN G l d M tgt ls st h Q) (kf : ¬ a < 0 → RUN G l d M (pc + 3) ls st h Q) : RUN G l d M pc ls (.int (J a) :: st) h Q := by
  have e : (J a < J 0) ↔ a < 0 := (J_lt ha ⟨by decide, by decide⟩)
  rw [← J_0] at e
  exact r_if_lt hdg ht (fun q => kt (e.mp q)) (fun q => kf (fun z => q (e.mpr z)))
theorem rj_icmp_lt {off : Int} {tgt : Nat} (hdg : decode M.2.1 pc = .ok (.if_icmp .lt off, 3)) (ht : (pc : Int) + off = (tgt : Int)) (ha : InR a) (hb : InR b) (kt : a < b → RUN G l d M tgt ls st h Q) (kf : ¬ a < b → RUN G l d M (pc + 3) ls st h Q) : RUN G l d M pc ls (.int (J b) :: .int (J a) :: st) h Q := by
  have e := (J_lt ha hb)
  exact r_icmp_lt hdg ht (fun q => kt (e.mp q)) (fun q => kf (fun z => q (e.mpr z)))
theorem rj_if_ge {off : Int} {tgt : Nat} (hdg : decode M.2.1 pc = .ok (.ifCond .ge off, 3)) (ht : (pc : Int) + off = (tgt : Int)) (ha : InR a) (kt : 0 ≤ a → RUN G l d M tgt ls st h Q) (kf : ¬ 0 ≤ a → RUN G l d M (pc + 3) ls st h Q) : RUN G l d M pc ls (.int (J a) :: st) h Q := by
  have e : (J 0 ≤ J a) ↔ 0 ≤ a := (J_le ⟨by decide, by decide⟩ ha)
  rw [← J_0] at e
  exact r_if_ge hdg ht (fun q => kt (e.mp q)) (fun q => kf (fun z => q (e.mpr z)))
theorem rj_icmp_ge {off : Int} {tgt : Nat} (hdg : decode M.2.1 pc = .ok (.if_icmp .ge off, 3)) (ht : (pc : Int) + off = (tgt : Int)) (ha : InR a) (hb : InR b) (kt : b ≤ a → RUN G l d M tgt ls st h Q) (kf : ¬ b ≤ a → RUN G l d M (pc + 3) ls st h Q) : RUN G l d M pc ls (.int (J b) :: .int (J a) :: st) h Q := by
  have e := (J_le hb ha)
  exact r_icmp_ge hdg ht (fun q => kt (e.mp q)) (fun q => kf (fun z => q (e.mpr z)))
theorem rj_if_gt {off : Int} {tgt : Nat} (hdg : decode M.2.1 pc = .ok (.ifCond .gt off, 3)) (ht : (pc : Int) + off = (tgt : Int)) (ha : InR a) (kt : 0 < a → RUN G l d M tgt ls st h Q) (kf : ¬ 0 < a → RUN G l d M (pc + 3) ls st h Q) : RUN G l d M pc ls (.int (J a) :: st) h Q := by
  have e : (J 0 < J a) ↔ 0 < a := (J_lt ⟨by decide, by decide⟩ ha)
  rw [← J_0] at e
  exact r_if_gt hdg ht (fun q => kt (e.mp q)) (fun q => kf (fun z => q (e.mpr z)))
theorem rj_icmp_gt {off : Int} {tgt : Nat} (hdg : decode M.2.1 pc = .ok (.if_icmp .gt off, 3)) (ht : (pc : Int) + off = (tgt : Int)) (ha : InR a) (hb : InR b) (kt : b < a → RUN G l d M tgt ls st h Q) (kf : ¬ b < a → RUN G l d M (pc + 3) ls st h Q) : RUN G l d M pc ls (.int (J b) :: .int (J a) :: st) h Q := by
  have e := (J_lt hb ha)
  exact r_icmp_gt hdg ht (fun q => kt (e.mp q)) (fun q => kf (fun z => q (e.mpr z)))
theorem rj_if_le {off : Int} {tgt : Nat} (hdg : decode M.2.1 pc = .ok (.ifCond .le off, 3)) (ht : (pc : Int) + off = (tgt : Int)) (ha : InR a) (kt : a ≤ 0 → RUN G l d M tgt ls st h Q) (kf : ¬ a ≤ 0 → RUN G l d M (pc + 3) ls st h Q) : RUN G l d M pc ls (.int (J a) :: st) h Q := by
  have e : (J a ≤ J 0) ↔ a ≤ 0 := (J_le ha ⟨by decide, by decide⟩)
  rw [← J_0] at e
  exact r_if_le hdg ht (fun q => kt (e.mp q)) (fun q => kf (fun z => q (e.mpr z)))
theorem rj_icmp_le {off : Int} {tgt : Nat} (hdg : decode M.2.1 pc = .ok (.if_icmp .le off, 3)) (ht : (pc : Int) + off = (tgt : Int)) (ha : InR a) (hb : InR b) (kt : a ≤ b → RUN G l d M tgt ls st h Q) (kf : ¬ a ≤ b → RUN G l d M (pc + 3) ls st h Q) : RUN G l d M pc ls (.int (J b) :: .int (J a) :: st) h Q := by
  have e := (J_le ha hb)
  exact r_icmp_le hdg ht (fun q => kt (e.mp q)) (fun q => kf (fun z => q (e.mpr z)))
theorem rj_iald {c n j : Nat} {f : Nat → Int} (hdg : decode M.2.1 pc = .ok (.iaload, 1)) (ho : hGet h c = some (.inr (.inl (n, fun q => J (f q))))) (hr : InR a) (h0 : 0 ≤ a) (h1 : a < n) (hj : a.toNat = j) (K : RUN G l d M (pc + 1) ls (.int (J (f j)) :: st) h Q) : RUN G l d M pc ls (.int (J a) :: .ref c :: st) h Q :=
  r_iald hdg ho (J_in hr h0 h1) (by rw [J_cl h0 hr, hj]; exact K)
theorem rj_iast {c n : Nat} {f : Nat → Int} (hdg : decode M.2.1 pc = .ok (.iastore, 1)) (ho : hGet h c = some (.inr (.inl (n, fun q => J (f q))))) (hlo : h.1 ≤ c) (hr : InR a) (h0 : 0 ≤ a) (h1 : a < n) (K : RUN G l d M (pc + 1) ls st (hPut h c (.inr (.inl (n, fun q => J (updI f a.toNat b q))))) Q) : RUN G l d M pc ls (.int (J b) :: .int (J a) :: .ref c :: st) h Q :=
  r_iast hdg ho hlo (J_in hr h0 h1) (by rw [J_cl h0 hr, J_upd]; exact K)
theorem rj_alen {c n : Nat} {f : Nat → Int32} (hdg : decode M.2.1 pc = .ok (.arraylength, 1)) (ho : hGet h c = some (.inr (.inl (n, f)))) (K : RUN G l d M (pc + 1) ls (.int (J (n : Int)) :: st) h Q) : RUN G l d M pc ls (.ref c :: st) h Q := r_alenI hdg ho (by rw [J_nat]; exact K)
theorem rj_aald {c t n : Nat} {f : Nat → Option Nat} (hdg : decode M.2.1 pc = .ok (.aaload, 1)) (ho : hGet h c = some (.inr (.inr (t, n, f)))) (hr : InR a) (h0 : 0 ≤ a) (h1 : a < n) (K : RUN G l d M (pc + 1) ls (va_rf (f a.toNat) :: st) h Q) : RUN G l d M pc ls (.int (J a) :: .ref c :: st) h Q :=
  r_aald hdg ho (J_in hr h0 h1) (by rw [J_cl h0 hr]; exact K)
theorem rj_newaI {n : Int} (hdg : decode M.2.1 pc = .ok (.newarray .int, 2)) (hG : G.2.map Prod.snd = mTy) (hn : 0 ≤ n) (hm : n < 100000) (K : RUN G l d M (pc + 2) ls (.ref h.2.1 :: st) (hNew h n.toNat (.inr (.inl (n.toNat, fun _ => J 0)))) Q) : RUN G l d M pc ls (.int (J n) :: st) h Q :=
  r_newaI hdg hG w_int (by rw [J_0, J_lt ⟨by omega, by omega⟩ ⟨by decide, by decide⟩]; omega) (J_cl hn ⟨by omega, by omega⟩) (by omega) (by rw [J_0]; exact K)
theorem rj_lsw {dflt : Int} {ps : List (Int × Int)} {len : Nat} (hdg : decode M.2.1 pc = .ok (.lookupswitch dflt ps.toArray, len)) (hp : (ps.zip (ps.drop 1)).all (fun (a, next) => a.1 < next.1) = true) (ha : InR a) (hpos : 0 ≤ (pc : Int) + Op.lookupswitch.offset ps dflt a) (K : ∀ (off : Int) (tgt : Nat), Op.lookupswitch.offset ps dflt a = off → (pc : Int) + off = (tgt : Int) → RUN G l d M tgt ls st h Q) : RUN G l d M pc ls (.int (J a) :: st) h Q :=
  r_lsw hdg (by simpa using hp) (off := Op.lookupswitch.offset ps dflt a) (tgt := ((pc : Int) + Op.lookupswitch.offset ps dflt a).toNat) (by rw [J_toInt ha]) (by omega) (K _ _ rfl (by omega))
def tswOff (d lo hi : Int) (offs : List Int) (a : Int) : Int := if a < lo ∨ hi < a then d else offs.getD (a - lo).toNat 0
theorem rj_tsw {dflt lo hi : Int} {offs : List Int} {len : Nat} (hdg : decode M.2.1 pc = .ok (.tableswitch dflt lo hi offs.toArray, len)) (ha : InR a) (hl : hi - lo < (offs.length : Int)) (hpos : 0 ≤ (pc : Int) + dflt) (hposs : ∀ o ∈ offs, 0 ≤ (pc : Int) + o) (K : ∀ (off : Int) (tgt : Nat), tswOff dflt lo hi offs a = off → (pc : Int) + off = (tgt : Int) → RUN G l d M tgt ls st h Q) : RUN G l d M pc ls (.int (J a) :: st) h Q := by
  by_cases c : a < lo ∨ hi < a
  · exact r_tswOut hdg (by rw [J_toInt ha]; exact c) (tgt := ((pc : Int) + dflt).toNat) (by omega) (K _ _ (by unfold tswOff; rw [if_pos c]) (by omega))
  · have hi2 : (a - lo).toNat < offs.length := by omega
    have ho : offs[(a - lo).toNat]? = some (offs.getD (a - lo).toNat 0) := by rw [List.getD_eq_getElem?_getD, List.getElem?_eq_getElem hi2]; rfl
    obtain ⟨v, hv⟩ : ∃ v, offs.getD (a - lo).toNat 0 = v := ⟨_, rfl⟩
    rw [hv] at ho
    have hp := hposs v (List.mem_of_getElem? ho)
    exact r_tswIn hdg (by rw [J_toInt ha]; omega) (by rw [J_toInt ha]; omega) (by rw [J_toInt ha]; simpa using ho) (tgt := ((pc : Int) + v).toNat) (by omega) (K v _ (by unfold tswOff; rw [if_neg c, hv]) (by omega))
end RJ
theorem lsw_pos {p dflt a : Int} : ∀ ps : List (Int × Int), (∀ x ∈ ps, 0 ≤ p + x.2) → 0 ≤ p + dflt → 0 ≤ p + Op.lookupswitch.offset ps dflt a
  | [], _, h => by rw [Op.lookupswitch.offset_nil]; exact h
  | (k, o) :: ps, g, h => by
    rw [Op.lookupswitch.offset_cons]
    split
    · exact g (k, o) List.mem_cons_self
    · exact lsw_pos ps (fun y hy => g y (List.mem_cons_of_mem _ hy)) h
end mg_06
section mg_20
/-! ===== the reference's world: an object with 21 fields, nine rows of ints behind it ===== -/
def mAd (x k : Nat) : Nat := x + 1 + k
noncomputable def mFs (x : Nat) (f4 f6 f8 f9 f10 f11 f12 f13 f14 f16 f18 : Int) (s : Nat) : List Value := [.ref (mAd x 0), .ref (mAd x 1), .ref (mAd x 2), .ref (mAd x 3), .int (J f4), .ref (mAd x 4), .int (J f6), .ref (mAd x s), .int (J f8), .int (J f9), .int (J f10), .int (J f11), .int (J f12), .int (J f13), .int (J f14), .ref (mAd x 5), .int (J f16), .ref (mAd x 6), .int (J f18), .ref (mAd x 7), .ref (mAd x 8)]
def isM (h : mH) (x : Nat) (fs : List Value) (m kp was pool tape pln pap rwd rw : Nat → Int) : Prop := h.1 ≤ x ∧ hGet h x = some (.inl (11, fs)) ∧ hGet h (mAd x 0) = some (.inr (.inl (2928, fun q => J (m q)))) ∧ hGet h (mAd x 1) = some (.inr (.inl (2928, fun q => J (kp q)))) ∧ hGet h (mAd x 2) = some (.inr (.inl (2928, fun q => J (was q)))) ∧ hGet h (mAd x 3) = some (.inr (.inl (12342, fun q => J (pool q)))) ∧ hGet h (mAd x 4) = some (.inr (.inl (120, fun q => J (tape q)))) ∧ hGet h (mAd x 5) = some (.inr (.inl (90, fun q => J (pln q)))) ∧ hGet h (mAd x 6) = some (.inr (.inl (120, fun q => J (pap q)))) ∧ hGet h (mAd x 7) = some (.inr (.inl (4, fun q => J (rwd q)))) ∧ hGet h (mAd x 8) = some (.inr (.inl (160, fun q => J (rw q))))
def mBlk (x : Nat) : Nat → Prop := fun b => x ≤ b ∧ b < x + 10
theorem mAd_ne {x k j : Nat} (h : k ≠ j) : mAd x k ≠ mAd x j := by unfold mAd; omega
theorem mAd_x {x k : Nat} : mAd x k ≠ x := by unfold mAd; omega
theorem x_mAd {x k : Nat} : x ≠ mAd x k := by unfold mAd; omega
theorem mAd_blk {x k : Nat} (h : k < 9) : mBlk x (mAd x k) := by unfold mBlk mAd; omega
theorem x_blk {x : Nat} : mBlk x x := by unfold mBlk; omega
section IM
variable {h : mH} {x : Nat} {fs : List Value} {m kp was pool tape pln pap rwd rw : Nat → Int}
theorem isM.lo (k : isM h x fs m kp was pool tape pln pap rwd rw) : h.1 ≤ x := k.1
theorem isM.loA (k : isM h x fs m kp was pool tape pln pap rwd rw) (j : Nat) : h.1 ≤ mAd x j := Nat.le_trans k.1 (by unfold mAd; omega)
theorem isM.gx (k : isM h x fs m kp was pool tape pln pap rwd rw) : hGet h x = some (.inl (11, fs)) := k.2.1
theorem isM.g0 (k : isM h x fs m kp was pool tape pln pap rwd rw) : hGet h (mAd x 0) = some (.inr (.inl (2928, fun q => J (m q)))) := k.2.2.1
theorem isM.g1 (k : isM h x fs m kp was pool tape pln pap rwd rw) : hGet h (mAd x 1) = some (.inr (.inl (2928, fun q => J (kp q)))) := k.2.2.2.1
theorem isM.g2 (k : isM h x fs m kp was pool tape pln pap rwd rw) : hGet h (mAd x 2) = some (.inr (.inl (2928, fun q => J (was q)))) := k.2.2.2.2.1
theorem isM.g3 (k : isM h x fs m kp was pool tape pln pap rwd rw) : hGet h (mAd x 3) = some (.inr (.inl (12342, fun q => J (pool q)))) := k.2.2.2.2.2.1
theorem isM.g4 (k : isM h x fs m kp was pool tape pln pap rwd rw) : hGet h (mAd x 4) = some (.inr (.inl (120, fun q => J (tape q)))) := k.2.2.2.2.2.2.1
theorem isM.g5 (k : isM h x fs m kp was pool tape pln pap rwd rw) : hGet h (mAd x 5) = some (.inr (.inl (90, fun q => J (pln q)))) := k.2.2.2.2.2.2.2.1
theorem isM.g6 (k : isM h x fs m kp was pool tape pln pap rwd rw) : hGet h (mAd x 6) = some (.inr (.inl (120, fun q => J (pap q)))) := k.2.2.2.2.2.2.2.2.1
theorem isM.g7 (k : isM h x fs m kp was pool tape pln pap rwd rw) : hGet h (mAd x 7) = some (.inr (.inl (4, fun q => J (rwd q)))) := k.2.2.2.2.2.2.2.2.2.1
theorem isM.g8 (k : isM h x fs m kp was pool tape pln pap rwd rw) : hGet h (mAd x 8) = some (.inr (.inl (160, fun q => J (rw q)))) := k.2.2.2.2.2.2.2.2.2.2
theorem isM.putx (k : isM h x fs m kp was pool tape pln pap rwd rw) (fs' : List Value) : isM (hPut h x (.inl (11, fs'))) x fs' m kp was pool tape pln pap rwd rw := ⟨k.lo, hGet_put_self, hGet_put_ne mAd_x k.g0, hGet_put_ne mAd_x k.g1, hGet_put_ne mAd_x k.g2, hGet_put_ne mAd_x k.g3, hGet_put_ne mAd_x k.g4, hGet_put_ne mAd_x k.g5, hGet_put_ne mAd_x k.g6, hGet_put_ne mAd_x k.g7, hGet_put_ne mAd_x k.g8⟩
theorem isM.put0 (k : isM h x fs m kp was pool tape pln pap rwd rw) (m' : Nat → Int) : isM (hPut h (mAd x 0) (.inr (.inl (2928, fun q => J (m' q))))) x fs m' kp was pool tape pln pap rwd rw := ⟨k.lo, hGet_put_ne x_mAd k.gx, hGet_put_self, hGet_put_ne (mAd_ne (by decide)) k.g1, hGet_put_ne (mAd_ne (by decide)) k.g2, hGet_put_ne (mAd_ne (by decide)) k.g3, hGet_put_ne (mAd_ne (by decide)) k.g4, hGet_put_ne (mAd_ne (by decide)) k.g5, hGet_put_ne (mAd_ne (by decide)) k.g6, hGet_put_ne (mAd_ne (by decide)) k.g7, hGet_put_ne (mAd_ne (by decide)) k.g8⟩
theorem isM.put1 (k : isM h x fs m kp was pool tape pln pap rwd rw) (kp' : Nat → Int) : isM (hPut h (mAd x 1) (.inr (.inl (2928, fun q => J (kp' q))))) x fs m kp' was pool tape pln pap rwd rw := ⟨k.lo, hGet_put_ne x_mAd k.gx, hGet_put_ne (mAd_ne (by decide)) k.g0, hGet_put_self, hGet_put_ne (mAd_ne (by decide)) k.g2, hGet_put_ne (mAd_ne (by decide)) k.g3, hGet_put_ne (mAd_ne (by decide)) k.g4, hGet_put_ne (mAd_ne (by decide)) k.g5, hGet_put_ne (mAd_ne (by decide)) k.g6, hGet_put_ne (mAd_ne (by decide)) k.g7, hGet_put_ne (mAd_ne (by decide)) k.g8⟩
theorem isM.put2 (k : isM h x fs m kp was pool tape pln pap rwd rw) (was' : Nat → Int) : isM (hPut h (mAd x 2) (.inr (.inl (2928, fun q => J (was' q))))) x fs m kp was' pool tape pln pap rwd rw := ⟨k.lo, hGet_put_ne x_mAd k.gx, hGet_put_ne (mAd_ne (by decide)) k.g0, hGet_put_ne (mAd_ne (by decide)) k.g1, hGet_put_self, hGet_put_ne (mAd_ne (by decide)) k.g3, hGet_put_ne (mAd_ne (by decide)) k.g4, hGet_put_ne (mAd_ne (by decide)) k.g5, hGet_put_ne (mAd_ne (by decide)) k.g6, hGet_put_ne (mAd_ne (by decide)) k.g7, hGet_put_ne (mAd_ne (by decide)) k.g8⟩
theorem isM.put3 (k : isM h x fs m kp was pool tape pln pap rwd rw) (pool' : Nat → Int) : isM (hPut h (mAd x 3) (.inr (.inl (12342, fun q => J (pool' q))))) x fs m kp was pool' tape pln pap rwd rw := ⟨k.lo, hGet_put_ne x_mAd k.gx, hGet_put_ne (mAd_ne (by decide)) k.g0, hGet_put_ne (mAd_ne (by decide)) k.g1, hGet_put_ne (mAd_ne (by decide)) k.g2, hGet_put_self, hGet_put_ne (mAd_ne (by decide)) k.g4, hGet_put_ne (mAd_ne (by decide)) k.g5, hGet_put_ne (mAd_ne (by decide)) k.g6, hGet_put_ne (mAd_ne (by decide)) k.g7, hGet_put_ne (mAd_ne (by decide)) k.g8⟩
theorem isM.put4 (k : isM h x fs m kp was pool tape pln pap rwd rw) (tape' : Nat → Int) : isM (hPut h (mAd x 4) (.inr (.inl (120, fun q => J (tape' q))))) x fs m kp was pool tape' pln pap rwd rw := ⟨k.lo, hGet_put_ne x_mAd k.gx, hGet_put_ne (mAd_ne (by decide)) k.g0, hGet_put_ne (mAd_ne (by decide)) k.g1, hGet_put_ne (mAd_ne (by decide)) k.g2, hGet_put_ne (mAd_ne (by decide)) k.g3, hGet_put_self, hGet_put_ne (mAd_ne (by decide)) k.g5, hGet_put_ne (mAd_ne (by decide)) k.g6, hGet_put_ne (mAd_ne (by decide)) k.g7, hGet_put_ne (mAd_ne (by decide)) k.g8⟩
theorem isM.put5 (k : isM h x fs m kp was pool tape pln pap rwd rw) (pln' : Nat → Int) : isM (hPut h (mAd x 5) (.inr (.inl (90, fun q => J (pln' q))))) x fs m kp was pool tape pln' pap rwd rw := ⟨k.lo, hGet_put_ne x_mAd k.gx, hGet_put_ne (mAd_ne (by decide)) k.g0, hGet_put_ne (mAd_ne (by decide)) k.g1, hGet_put_ne (mAd_ne (by decide)) k.g2, hGet_put_ne (mAd_ne (by decide)) k.g3, hGet_put_ne (mAd_ne (by decide)) k.g4, hGet_put_self, hGet_put_ne (mAd_ne (by decide)) k.g6, hGet_put_ne (mAd_ne (by decide)) k.g7, hGet_put_ne (mAd_ne (by decide)) k.g8⟩
theorem isM.put6 (k : isM h x fs m kp was pool tape pln pap rwd rw) (pap' : Nat → Int) : isM (hPut h (mAd x 6) (.inr (.inl (120, fun q => J (pap' q))))) x fs m kp was pool tape pln pap' rwd rw := ⟨k.lo, hGet_put_ne x_mAd k.gx, hGet_put_ne (mAd_ne (by decide)) k.g0, hGet_put_ne (mAd_ne (by decide)) k.g1, hGet_put_ne (mAd_ne (by decide)) k.g2, hGet_put_ne (mAd_ne (by decide)) k.g3, hGet_put_ne (mAd_ne (by decide)) k.g4, hGet_put_ne (mAd_ne (by decide)) k.g5, hGet_put_self, hGet_put_ne (mAd_ne (by decide)) k.g7, hGet_put_ne (mAd_ne (by decide)) k.g8⟩
theorem isM.put7 (k : isM h x fs m kp was pool tape pln pap rwd rw) (rwd' : Nat → Int) : isM (hPut h (mAd x 7) (.inr (.inl (4, fun q => J (rwd' q))))) x fs m kp was pool tape pln pap rwd' rw := ⟨k.lo, hGet_put_ne x_mAd k.gx, hGet_put_ne (mAd_ne (by decide)) k.g0, hGet_put_ne (mAd_ne (by decide)) k.g1, hGet_put_ne (mAd_ne (by decide)) k.g2, hGet_put_ne (mAd_ne (by decide)) k.g3, hGet_put_ne (mAd_ne (by decide)) k.g4, hGet_put_ne (mAd_ne (by decide)) k.g5, hGet_put_ne (mAd_ne (by decide)) k.g6, hGet_put_self, hGet_put_ne (mAd_ne (by decide)) k.g8⟩
theorem isM.put8 (k : isM h x fs m kp was pool tape pln pap rwd rw) (rw' : Nat → Int) : isM (hPut h (mAd x 8) (.inr (.inl (160, fun q => J (rw' q))))) x fs m kp was pool tape pln pap rwd rw' := ⟨k.lo, hGet_put_ne x_mAd k.gx, hGet_put_ne (mAd_ne (by decide)) k.g0, hGet_put_ne (mAd_ne (by decide)) k.g1, hGet_put_ne (mAd_ne (by decide)) k.g2, hGet_put_ne (mAd_ne (by decide)) k.g3, hGet_put_ne (mAd_ne (by decide)) k.g4, hGet_put_ne (mAd_ne (by decide)) k.g5, hGet_put_ne (mAd_ne (by decide)) k.g6, hGet_put_ne (mAd_ne (by decide)) k.g7, hGet_put_self⟩
end IM
section RM
variable {G : mG} {l : Launch} {d : Nat} {M : mM} {pc : Nat} {ls : List (Option Value)} {st : List Value} {h : mH} {Q : Option Value → mH → Prop} {x : Nat} {fs : List Value} {m kp was pool tape pln pap rwd rw : Nat → Int}
theorem rm_getf {index k : Nat} {ty : FieldType} {fin : Bool} {v : Value} (hdg : decode M.2.1 pc = .ok (.getfield index, 3)) (hf : mFld M.1.cls index 11 k ty fin) (hB : isM h x fs m kp was pool tape pln pap rwd rw) (hv : fs[k]? = some v) (K : RUN G l d M (pc + 3) ls (v :: st) h Q) : RUN G l d M pc ls (.ref x :: st) h Q := r_getf hdg hf hB.gx hv K
theorem rm_putf {index k : Nat} {ty : FieldType} {v : Value} (hdg : decode M.2.1 pc = .ok (.putfield index, 3)) (hf : mFld M.1.cls index 11 k ty false) (hB : isM h x fs m kp was pool tape pln pap rwd rw) (hn : narrow ty v = v) (hfit : fits ty v = true) (hl : k < fs.length)
    (K : ∀ h1, isM h1 x (fs.set k v) m kp was pool tape pln pap rwd rw → Same (mBlk x) h h1 → RUN G l d M (pc + 3) ls st h1 Q) : RUN G l d M pc ls (v :: .ref x :: st) h Q :=
  r_putf hdg hf hB.gx hB.lo hn hfit hl (K _ (hB.putx _) (Same.refl.put x_blk))
theorem rm_iast0 {i v : Int} {j : Nat} (hdg : decode M.2.1 pc = .ok (.iastore, 1)) (hB : isM h x fs m kp was pool tape pln pap rwd rw) (hr : InR i) (h0 : 0 ≤ i) (h1 : i < 2928) (hj : i.toNat = j)
    (K : ∀ h1, isM h1 x fs (updI m j v) kp was pool tape pln pap rwd rw → Same (mBlk x) h h1 → RUN G l d M (pc + 1) ls st h1 Q) : RUN G l d M pc ls (.int (J v) :: .int (J i) :: .ref (mAd x 0) :: st) h Q :=
  rj_iast hdg hB.g0 (hB.loA 0) hr h0 h1 (by rw [hj]; exact K _ (hB.put0 _) (Same.refl.put (mAd_blk (by decide))))
theorem rm_iast1 {i v : Int} {j : Nat} (hdg : decode M.2.1 pc = .ok (.iastore, 1)) (hB : isM h x fs m kp was pool tape pln pap rwd rw) (hr : InR i) (h0 : 0 ≤ i) (h1 : i < 2928) (hj : i.toNat = j)
    (K : ∀ h1, isM h1 x fs m (updI kp j v) was pool tape pln pap rwd rw → Same (mBlk x) h h1 → RUN G l d M (pc + 1) ls st h1 Q) : RUN G l d M pc ls (.int (J v) :: .int (J i) :: .ref (mAd x 1) :: st) h Q :=
  rj_iast hdg hB.g1 (hB.loA 1) hr h0 h1 (by rw [hj]; exact K _ (hB.put1 _) (Same.refl.put (mAd_blk (by decide))))
theorem rm_iast2 {i v : Int} {j : Nat} (hdg : decode M.2.1 pc = .ok (.iastore, 1)) (hB : isM h x fs m kp was pool tape pln pap rwd rw) (hr : InR i) (h0 : 0 ≤ i) (h1 : i < 2928) (hj : i.toNat = j)
    (K : ∀ h1, isM h1 x fs m kp (updI was j v) pool tape pln pap rwd rw → Same (mBlk x) h h1 → RUN G l d M (pc + 1) ls st h1 Q) : RUN G l d M pc ls (.int (J v) :: .int (J i) :: .ref (mAd x 2) :: st) h Q :=
  rj_iast hdg hB.g2 (hB.loA 2) hr h0 h1 (by rw [hj]; exact K _ (hB.put2 _) (Same.refl.put (mAd_blk (by decide))))
theorem rm_iast3 {i v : Int} {j : Nat} (hdg : decode M.2.1 pc = .ok (.iastore, 1)) (hB : isM h x fs m kp was pool tape pln pap rwd rw) (hr : InR i) (h0 : 0 ≤ i) (h1 : i < 12342) (hj : i.toNat = j)
    (K : ∀ h1, isM h1 x fs m kp was (updI pool j v) tape pln pap rwd rw → Same (mBlk x) h h1 → RUN G l d M (pc + 1) ls st h1 Q) : RUN G l d M pc ls (.int (J v) :: .int (J i) :: .ref (mAd x 3) :: st) h Q :=
  rj_iast hdg hB.g3 (hB.loA 3) hr h0 h1 (by rw [hj]; exact K _ (hB.put3 _) (Same.refl.put (mAd_blk (by decide))))
theorem rm_iast4 {i v : Int} {j : Nat} (hdg : decode M.2.1 pc = .ok (.iastore, 1)) (hB : isM h x fs m kp was pool tape pln pap rwd rw) (hr : InR i) (h0 : 0 ≤ i) (h1 : i < 120) (hj : i.toNat = j)
    (K : ∀ h1, isM h1 x fs m kp was pool (updI tape j v) pln pap rwd rw → Same (mBlk x) h h1 → RUN G l d M (pc + 1) ls st h1 Q) : RUN G l d M pc ls (.int (J v) :: .int (J i) :: .ref (mAd x 4) :: st) h Q :=
  rj_iast hdg hB.g4 (hB.loA 4) hr h0 h1 (by rw [hj]; exact K _ (hB.put4 _) (Same.refl.put (mAd_blk (by decide))))
theorem rm_iast5 {i v : Int} {j : Nat} (hdg : decode M.2.1 pc = .ok (.iastore, 1)) (hB : isM h x fs m kp was pool tape pln pap rwd rw) (hr : InR i) (h0 : 0 ≤ i) (h1 : i < 90) (hj : i.toNat = j)
    (K : ∀ h1, isM h1 x fs m kp was pool tape (updI pln j v) pap rwd rw → Same (mBlk x) h h1 → RUN G l d M (pc + 1) ls st h1 Q) : RUN G l d M pc ls (.int (J v) :: .int (J i) :: .ref (mAd x 5) :: st) h Q :=
  rj_iast hdg hB.g5 (hB.loA 5) hr h0 h1 (by rw [hj]; exact K _ (hB.put5 _) (Same.refl.put (mAd_blk (by decide))))
theorem rm_iast6 {i v : Int} {j : Nat} (hdg : decode M.2.1 pc = .ok (.iastore, 1)) (hB : isM h x fs m kp was pool tape pln pap rwd rw) (hr : InR i) (h0 : 0 ≤ i) (h1 : i < 120) (hj : i.toNat = j)
    (K : ∀ h1, isM h1 x fs m kp was pool tape pln (updI pap j v) rwd rw → Same (mBlk x) h h1 → RUN G l d M (pc + 1) ls st h1 Q) : RUN G l d M pc ls (.int (J v) :: .int (J i) :: .ref (mAd x 6) :: st) h Q :=
  rj_iast hdg hB.g6 (hB.loA 6) hr h0 h1 (by rw [hj]; exact K _ (hB.put6 _) (Same.refl.put (mAd_blk (by decide))))
theorem rm_iast7 {i v : Int} {j : Nat} (hdg : decode M.2.1 pc = .ok (.iastore, 1)) (hB : isM h x fs m kp was pool tape pln pap rwd rw) (hr : InR i) (h0 : 0 ≤ i) (h1 : i < 4) (hj : i.toNat = j)
    (K : ∀ h1, isM h1 x fs m kp was pool tape pln pap (updI rwd j v) rw → Same (mBlk x) h h1 → RUN G l d M (pc + 1) ls st h1 Q) : RUN G l d M pc ls (.int (J v) :: .int (J i) :: .ref (mAd x 7) :: st) h Q :=
  rj_iast hdg hB.g7 (hB.loA 7) hr h0 h1 (by rw [hj]; exact K _ (hB.put7 _) (Same.refl.put (mAd_blk (by decide))))
theorem rm_iast8 {i v : Int} {j : Nat} (hdg : decode M.2.1 pc = .ok (.iastore, 1)) (hB : isM h x fs m kp was pool tape pln pap rwd rw) (hr : InR i) (h0 : 0 ≤ i) (h1 : i < 160) (hj : i.toNat = j)
    (K : ∀ h1, isM h1 x fs m kp was pool tape pln pap rwd (updI rw j v) → Same (mBlk x) h h1 → RUN G l d M (pc + 1) ls st h1 Q) : RUN G l d M pc ls (.int (J v) :: .int (J i) :: .ref (mAd x 8) :: st) h Q :=
  rj_iast hdg hB.g8 (hB.loA 8) hr h0 h1 (by rw [hj]; exact K _ (hB.put8 _) (Same.refl.put (mAd_blk (by decide))))
end RM
end mg_20
section mg_21
/-! ===== contracts of the reference: the small ones ===== -/
set_option maxHeartbeats 4000000 in
set_option maxRecDepth 100000 in
theorem m_isIn {G : mG} {l : Launch} (d : Nat) {h : mH} {a b c : Int} (ha : InR a) (hb : InR b) (hc : InR c) : RUNM G l (d) mX11_isIn [.int (J a), .int (J b), .int (J c)] h (fun v h' => v = some (.int (J (b01 (b ≤ a ∧ a ≤ c)))) ∧ h' = h) := by
  refine RUNM.of (by decide +kernel) (Nat.le_of_ble_eq_true rfl) ?_
  refine r_iload_n (pc := 0) dX11_isIn_0 rfl ?_
  refine r_iload_n (pc := 1) dX11_isIn_1 rfl ?_
  refine rj_icmp_lt (pc := 2) (tgt := 14) dX11_isIn_2 (by decide) (by first | assumption | exact b01_r | exact bz_r | omega | (constructor <;> omega) | exact hM _ | exact hPo _ | exact hTa _ | exact hRo _) (by first | assumption | exact b01_r | exact bz_r | omega | (constructor <;> omega) | exact hM _ | exact hPo _ | exact hTa _ | exact hRo _) (fun c_2 => ?_) (fun c_2 => ?_)
  · refine rj_iconst (pc := 14) dX11_isIn_14 ?_
    refine r_ireturn (pc := 15) .boolean dX11_isIn_15 rfl (by first | exact nar_J0 | exact nar_J1 | exact nar_b01 | exact nar_bz) ?_
    first
    | exact ⟨rfl, rfl⟩
    | exact ⟨vf (by omega), rfl⟩
    | exact ⟨vt (by omega), rfl⟩
  · refine r_iload_n (pc := 5) dX11_isIn_5 rfl ?_
    refine r_iload_n (pc := 6) dX11_isIn_6 rfl ?_
    refine rj_icmp_gt (pc := 7) (tgt := 14) dX11_isIn_7 (by decide) (by first | assumption | exact b01_r | exact bz_r | omega | (constructor <;> omega) | exact hM _ | exact hPo _ | exact hTa _ | exact hRo _) (by first | assumption | exact b01_r | exact bz_r | omega | (constructor <;> omega) | exact hM _ | exact hPo _ | exact hTa _ | exact hRo _) (fun c_7 => ?_) (fun c_7 => ?_)
    · refine rj_iconst (pc := 14) dX11_isIn_14 ?_
      refine r_ireturn (pc := 15) .boolean dX11_isIn_15 rfl (by first | exact nar_J0 | exact nar_J1 | exact nar_b01 | exact nar_bz) ?_
      first
      | exact ⟨rfl, rfl⟩
      | exact ⟨vf (by omega), rfl⟩
      | exact ⟨vt (by omega), rfl⟩
    · refine rj_iconst (pc := 10) dX11_isIn_10 ?_
      refine r_goto (pc := 11) (tgt := 15) dX11_isIn_11 (by decide) ?_
      refine r_ireturn (pc := 15) .boolean dX11_isIn_15 rfl (by first | exact nar_J0 | exact nar_J1 | exact nar_b01 | exact nar_bz) ?_
      first
      | exact ⟨rfl, rfl⟩
      | exact ⟨vf (by omega), rfl⟩
      | exact ⟨vt (by omega), rfl⟩
set_option maxHeartbeats 4000000 in
set_option maxRecDepth 100000 in
theorem m_ofScope {G : mG} {l : Launch} (d : Nat) {h : mH} {a b : Int} : RUNM G l (d) mX11_ofScope [.int (J a), .int (J b)] h (fun v h' => v = some (.int (J (18 + 4 * a + b))) ∧ h' = h) := by
  refine RUNM.of (by decide +kernel) (Nat.le_of_ble_eq_true rfl) ?_
  refine rj_bipush (pc := 0) dX11_ofScope_0 (by decide +kernel) ?_
  refine rj_iconst (pc := 2) dX11_ofScope_2 ?_
  refine r_iload_n (pc := 3) dX11_ofScope_3 rfl ?_
  refine rj_imul (pc := 4) dX11_ofScope_4 ?_
  refine rj_iadd (pc := 5) dX11_ofScope_5 ?_
  refine r_iload_n (pc := 6) dX11_ofScope_6 rfl ?_
  refine rj_iadd (pc := 7) dX11_ofScope_7 ?_
  refine r_ireturn (pc := 8) .int dX11_ofScope_8 rfl (by first | rfl | assumption) ?_
  exact ⟨by first | rfl | (congr 3; omega), rfl⟩
set_option maxHeartbeats 4000000 in
set_option maxRecDepth 100000 in
theorem m_ofThing {G : mG} {l : Launch} (d : Nat) {h : mH} {a b c : Int} : RUNM G l (d) mX11_ofThing [.int (J a), .int (J b), .int (J c)] h (fun v h' => v = some (.int (J (258 + 14 * a + b + c))) ∧ h' = h) := by
  refine RUNM.of (by decide +kernel) (Nat.le_of_ble_eq_true rfl) ?_
  refine rj_sipush (pc := 0) dX11_ofThing_0 (by decide +kernel) ?_
  refine rj_bipush (pc := 3) dX11_ofThing_3 (by decide +kernel) ?_
  refine r_iload_n (pc := 5) dX11_ofThing_5 rfl ?_
  refine rj_imul (pc := 6) dX11_ofThing_6 ?_
  refine rj_iadd (pc := 7) dX11_ofThing_7 ?_
  refine r_iload_n (pc := 8) dX11_ofThing_8 rfl ?_
  refine rj_iadd (pc := 9) dX11_ofThing_9 ?_
  refine r_iload_n (pc := 10) dX11_ofThing_10 rfl ?_
  refine rj_iadd (pc := 11) dX11_ofThing_11 ?_
  refine r_ireturn (pc := 12) .int dX11_ofThing_12 rfl (by first | rfl | assumption) ?_
  exact ⟨by first | rfl | (congr 3; omega), rfl⟩
set_option maxHeartbeats 4000000 in
set_option maxRecDepth 100000 in
theorem m_ofTask {G : mG} {l : Launch} (d : Nat) {h : mH} {a b c : Int} : RUNM G l (d) mX11_ofTask [.int (J a), .int (J b), .int (J c)] h (fun v h' => v = some (.int (J (1608 + 72 * a + b + c))) ∧ h' = h) := by
  refine RUNM.of (by decide +kernel) (Nat.le_of_ble_eq_true rfl) ?_
  refine rj_sipush (pc := 0) dX11_ofTask_0 (by decide +kernel) ?_
  refine rj_bipush (pc := 3) dX11_ofTask_3 (by decide +kernel) ?_
  refine r_iload_n (pc := 5) dX11_ofTask_5 rfl ?_
  refine rj_imul (pc := 6) dX11_ofTask_6 ?_
  refine rj_iadd (pc := 7) dX11_ofTask_7 ?_
  refine r_iload_n (pc := 8) dX11_ofTask_8 rfl ?_
  refine rj_iadd (pc := 9) dX11_ofTask_9 ?_
  refine r_iload_n (pc := 10) dX11_ofTask_10 rfl ?_
  refine rj_iadd (pc := 11) dX11_ofTask_11 ?_
  refine r_ireturn (pc := 12) .int dX11_ofTask_12 rfl (by first | rfl | assumption) ?_
  exact ⟨by first | rfl | (congr 3; omega), rfl⟩
set_option maxHeartbeats 4000000 in
set_option maxRecDepth 100000 in
theorem m_isScope {G : mG} {l : Launch} (d : Nat) {h : mH} {x s : Nat} {f4 f6 f8 f9 f10 f11 f12 f13 f14 f16 f18 : Int} {m kp was pool tape pln pap rwd rw : Nat → Int}(hB : isM h x (mFs x f4 f6 f8 f9 f10 f11 f12 f13 f14 f16 f18 s) m kp was pool tape pln pap rwd rw) {a : Int} (ha : InR a) (hM : InR (m 0 - 1)) : RUNM G l (d + 1) mX11_isScope [.ref x, .int (J a)] h (fun v h' => v = some (.int (J (b01 (0 ≤ a ∧ a ≤ m 0 - 1)))) ∧ h' = h) := by
  dsimp only [mFs] at hB
  refine RUNM.of (by decide +kernel) (Nat.le_of_ble_eq_true rfl) ?_
  refine r_iload_n (pc := 0) dX11_isScope_0 rfl ?_
  refine rj_iconst (pc := 1) dX11_isScope_1 ?_
  refine r_aload_n (pc := 2) dX11_isScope_2 rfl (by first | rfl | exact isRefV_rf _) ?_
  refine rm_getf (pc := 3) dX11_isScope_3 fX11_11 (by assumption) rfl ?_
  refine rj_iconst (pc := 6) dX11_isScope_6 ?_
  refine rj_iald (pc := 7) (j := 0) dX11_isScope_7 (by first | exact isM.g0 (by assumption) | exact isM.g3 (by assumption) | exact isM.g4 (by assumption) | exact isM.g8 (by assumption) | exact isM.g7 (by assumption) | exact isM.g6 (by assumption) | exact isM.g5 (by assumption) | exact isM.g1 (by assumption) | exact isM.g2 (by assumption)) (by first | assumption | exact b01_r | exact bz_r | omega | (constructor <;> omega) | exact hM _ | exact hPo _ | exact hTa _ | exact hRo _) (by first | assumption | exact b01_r | exact bz_r | omega | (constructor <;> omega) | exact hM _ | exact hPo _ | exact hTa _ | exact hRo _) (by first | assumption | exact b01_r | exact bz_r | omega | (constructor <;> omega) | exact hM _ | exact hPo _ | exact hTa _ | exact hRo _) rfl ?_
  refine rj_iconst (pc := 8) dX11_isScope_8 ?_
  refine rj_isub (pc := 9) dX11_isScope_9 ?_
  refine r_callS3 (pc := 10) dX11_isScope_10 qX11_isIn kX11_46 sX11_isIn (Nat.le_of_ble_eq_true rfl) (m_isIn d ha (by decide) hM) (fun v_10 h_10 q_10 => ?_)
  obtain ⟨rfl, rfl⟩ := q_10
  refine r_ireturn (pc := 13) .boolean dX11_isScope_13 rfl (by first | exact nar_J0 | exact nar_J1 | exact nar_b01 | exact nar_bz) ?_
  first
  | exact ⟨rfl, rfl⟩
  | exact ⟨vf (by omega), rfl⟩
  | exact ⟨vt (by omega), rfl⟩
set_option maxHeartbeats 4000000 in
set_option maxRecDepth 100000 in
theorem m_isThing {G : mG} {l : Launch} (d : Nat) {h : mH} {x s : Nat} {f4 f6 f8 f9 f10 f11 f12 f13 f14 f16 f18 : Int} {m kp was pool tape pln pap rwd rw : Nat → Int}(hB : isM h x (mFs x f4 f6 f8 f9 f10 f11 f12 f13 f14 f16 f18 s) m kp was pool tape pln pap rwd rw) {a : Int} (ha : InR a) (hM : InR (m 1 - 1)) : RUNM G l (d + 1) mX11_isThing [.ref x, .int (J a)] h (fun v h' => v = some (.int (J (b01 (0 ≤ a ∧ a ≤ m 1 - 1)))) ∧ h' = h) := by
  dsimp only [mFs] at hB
  refine RUNM.of (by decide +kernel) (Nat.le_of_ble_eq_true rfl) ?_
  refine r_iload_n (pc := 0) dX11_isThing_0 rfl ?_
  refine rj_iconst (pc := 1) dX11_isThing_1 ?_
  refine r_aload_n (pc := 2) dX11_isThing_2 rfl (by first | rfl | exact isRefV_rf _) ?_
  refine rm_getf (pc := 3) dX11_isThing_3 fX11_11 (by assumption) rfl ?_
  refine rj_iconst (pc := 6) dX11_isThing_6 ?_
  refine rj_iald (pc := 7) (j := 1) dX11_isThing_7 (by first | exact isM.g0 (by assumption) | exact isM.g3 (by assumption) | exact isM.g4 (by assumption) | exact isM.g8 (by assumption) | exact isM.g7 (by assumption) | exact isM.g6 (by assumption) | exact isM.g5 (by assumption) | exact isM.g1 (by assumption) | exact isM.g2 (by assumption)) (by first | assumption | exact b01_r | exact bz_r | omega | (constructor <;> omega) | exact hM _ | exact hPo _ | exact hTa _ | exact hRo _) (by first | assumption | exact b01_r | exact bz_r | omega | (constructor <;> omega) | exact hM _ | exact hPo _ | exact hTa _ | exact hRo _) (by first | assumption | exact b01_r | exact bz_r | omega | (constructor <;> omega) | exact hM _ | exact hPo _ | exact hTa _ | exact hRo _) rfl ?_
  refine rj_iconst (pc := 8) dX11_isThing_8 ?_
  refine rj_isub (pc := 9) dX11_isThing_9 ?_
  refine r_callS3 (pc := 10) dX11_isThing_10 qX11_isIn kX11_46 sX11_isIn (Nat.le_of_ble_eq_true rfl) (m_isIn d ha (by decide) hM) (fun v_10 h_10 q_10 => ?_)
  obtain ⟨rfl, rfl⟩ := q_10
  refine r_ireturn (pc := 13) .boolean dX11_isThing_13 rfl (by first | exact nar_J0 | exact nar_J1 | exact nar_b01 | exact nar_bz) ?_
  first
  | exact ⟨rfl, rfl⟩
  | exact ⟨vf (by omega), rfl⟩
  | exact ⟨vt (by omega), rfl⟩
set_option maxHeartbeats 4000000 in
set_option maxRecDepth 100000 in
theorem m_isTask {G : mG} {l : Launch} (d : Nat) {h : mH} {x s : Nat} {f4 f6 f8 f9 f10 f11 f12 f13 f14 f16 f18 : Int} {m kp was pool tape pln pap rwd rw : Nat → Int}(hB : isM h x (mFs x f4 f6 f8 f9 f10 f11 f12 f13 f14 f16 f18 s) m kp was pool tape pln pap rwd rw) {a : Int} (ha : InR a) (hM : InR (m 3 - 1)) : RUNM G l (d + 1) mX11_isTask [.ref x, .int (J a)] h (fun v h' => v = some (.int (J (b01 (0 ≤ a ∧ a ≤ m 3 - 1)))) ∧ h' = h) := by
  dsimp only [mFs] at hB
  refine RUNM.of (by decide +kernel) (Nat.le_of_ble_eq_true rfl) ?_
  refine r_iload_n (pc := 0) dX11_isTask_0 rfl ?_
  refine rj_iconst (pc := 1) dX11_isTask_1 ?_
  refine r_aload_n (pc := 2) dX11_isTask_2 rfl (by first | rfl | exact isRefV_rf _) ?_
  refine rm_getf (pc := 3) dX11_isTask_3 fX11_11 (by assumption) rfl ?_
  refine rj_iconst (pc := 6) dX11_isTask_6 ?_
  refine rj_iald (pc := 7) (j := 3) dX11_isTask_7 (by first | exact isM.g0 (by assumption) | exact isM.g3 (by assumption) | exact isM.g4 (by assumption) | exact isM.g8 (by assumption) | exact isM.g7 (by assumption) | exact isM.g6 (by assumption) | exact isM.g5 (by assumption) | exact isM.g1 (by assumption) | exact isM.g2 (by assumption)) (by first | assumption | exact b01_r | exact bz_r | omega | (constructor <;> omega) | exact hM _ | exact hPo _ | exact hTa _ | exact hRo _) (by first | assumption | exact b01_r | exact bz_r | omega | (constructor <;> omega) | exact hM _ | exact hPo _ | exact hTa _ | exact hRo _) (by first | assumption | exact b01_r | exact bz_r | omega | (constructor <;> omega) | exact hM _ | exact hPo _ | exact hTa _ | exact hRo _) rfl ?_
  refine rj_iconst (pc := 8) dX11_isTask_8 ?_
  refine rj_isub (pc := 9) dX11_isTask_9 ?_
  refine r_callS3 (pc := 10) dX11_isTask_10 qX11_isIn kX11_46 sX11_isIn (Nat.le_of_ble_eq_true rfl) (m_isIn d ha (by decide) hM) (fun v_10 h_10 q_10 => ?_)
  obtain ⟨rfl, rfl⟩ := q_10
  refine r_ireturn (pc := 13) .boolean dX11_isTask_13 rfl (by first | exact nar_J0 | exact nar_J1 | exact nar_b01 | exact nar_bz) ?_
  first
  | exact ⟨rfl, rfl⟩
  | exact ⟨vf (by omega), rfl⟩
  | exact ⟨vt (by omega), rfl⟩
set_option maxHeartbeats 4000000 in
set_option maxRecDepth 100000 in
theorem m_isOpen {G : mG} {l : Launch} (d : Nat) {h : mH} {x s : Nat} {f4 f6 f8 f9 f10 f11 f12 f13 f14 f16 f18 : Int} {m kp was pool tape pln pap rwd rw : Nat → Int}(hB : isM h x (mFs x f4 f6 f8 f9 f10 f11 f12 f13 f14 f16 f18 s) m kp was pool tape pln pap rwd rw) (hM : ∀ q, InR (m q)) (h0 : 0 ≤ m 0 ∧ m 0 ≤ 60) {a : Int} (ha : InR a) : RUNM G l (d + 2) mX11_isOpen [.ref x, .int (J a)] h (fun v h' => v = some (.int (J (b01 (0 ≤ a ∧ a ≤ m 0 - 1 ∧ m (18 + 4 * a).toNat = 0)))) ∧ h' = h) := by
  dsimp only [mFs] at hB
  refine RUNM.of (by decide +kernel) (Nat.le_of_ble_eq_true rfl) ?_
  have r0 := hM 0
  refine r_aload_n (pc := 0) dX11_isOpen_0 rfl (by first | rfl | exact isRefV_rf _) ?_
  refine r_iload_n (pc := 1) dX11_isOpen_1 rfl ?_
  refine r_callV1 (pc := 2) dX11_isOpen_2 qX11_isScope kX11_50 vX11_isScope (by exact isM.gx (by assumption)) rfl rfl (Nat.le_of_ble_eq_true rfl) (m_isScope d hB ha ⟨by omega, by omega⟩) (fun v_2 h_2 q_2 => ?_)
  obtain ⟨rfl, rfl⟩ := q_2
  refine rj_if_eq (pc := 5) (tgt := 25) dX11_isOpen_5 (by decide) (by first | assumption | exact b01_r | exact bz_r | omega | (constructor <;> omega) | exact hM _ | exact hPo _ | exact hTa _ | exact hRo _) (fun c_5 => ?_) (fun c_5 => ?_)
  · try simp only [b01_0, bz_0, Classical.not_not] at c_5
    refine rj_iconst (pc := 25) dX11_isOpen_25 ?_
    refine r_ireturn (pc := 26) .boolean dX11_isOpen_26 rfl (by first | exact nar_J0 | exact nar_J1 | exact nar_b01 | exact nar_bz) ?_
    first
    | exact ⟨rfl, rfl⟩
    | exact ⟨vf (by omega), rfl⟩
    | exact ⟨vt (by omega), rfl⟩
  · try simp only [b01_0, bz_0, Classical.not_not] at c_5
    refine r_aload_n (pc := 8) dX11_isOpen_8 rfl (by first | rfl | exact isRefV_rf _) ?_
    refine rm_getf (pc := 9) dX11_isOpen_9 fX11_11 (by assumption) rfl ?_
    refine r_iload_n (pc := 12) dX11_isOpen_12 rfl ?_
    refine rj_iconst (pc := 13) dX11_isOpen_13 ?_
    refine r_callS2 (pc := 14) dX11_isOpen_14 qX11_ofScope kX11_42 sX11_ofScope (Nat.le_of_ble_eq_true rfl) (m_ofScope (d + 1)) (fun v_14 h_14 q_14 => ?_)
    obtain ⟨rfl, rfl⟩ := q_14
    refine rj_iald (pc := 17) dX11_isOpen_17 (by first | exact isM.g0 (by assumption) | exact isM.g3 (by assumption) | exact isM.g4 (by assumption) | exact isM.g8 (by assumption) | exact isM.g7 (by assumption) | exact isM.g6 (by assumption) | exact isM.g5 (by assumption) | exact isM.g1 (by assumption) | exact isM.g2 (by assumption)) (by first | assumption | exact b01_r | exact bz_r | omega | (constructor <;> omega) | exact hM _ | exact hPo _ | exact hTa _ | exact hRo _) (by first | assumption | exact b01_r | exact bz_r | omega | (constructor <;> omega) | exact hM _ | exact hPo _ | exact hTa _ | exact hRo _) (by first | assumption | exact b01_r | exact bz_r | omega | (constructor <;> omega) | exact hM _ | exact hPo _ | exact hTa _ | exact hRo _) rfl ?_
    rw [Int.add_zero]
    refine rj_if_ne (pc := 18) (tgt := 25) dX11_isOpen_18 (by decide) (by first | assumption | exact b01_r | exact bz_r | omega | (constructor <;> omega) | exact hM _ | exact hPo _ | exact hTa _ | exact hRo _) (fun c_18 => ?_) (fun c_18 => ?_)
    · try simp only [b01_0, bz_0, Classical.not_not] at c_18
      refine rj_iconst (pc := 25) dX11_isOpen_25 ?_
      refine r_ireturn (pc := 26) .boolean dX11_isOpen_26 rfl (by first | exact nar_J0 | exact nar_J1 | exact nar_b01 | exact nar_bz) ?_
      first
      | exact ⟨rfl, rfl⟩
      | exact ⟨vf (by omega), rfl⟩
      | exact ⟨vt (by omega), rfl⟩
    · try simp only [b01_0, bz_0, Classical.not_not] at c_18
      refine rj_iconst (pc := 21) dX11_isOpen_21 ?_
      refine r_goto (pc := 22) (tgt := 26) dX11_isOpen_22 (by decide) ?_
      refine r_ireturn (pc := 26) .boolean dX11_isOpen_26 rfl (by first | exact nar_J0 | exact nar_J1 | exact nar_b01 | exact nar_bz) ?_
      first
      | exact ⟨rfl, rfl⟩
      | exact ⟨vf (by omega), rfl⟩
      | exact ⟨vt (by omega), rfl⟩
set_option maxHeartbeats 4000000 in
set_option maxRecDepth 100000 in
theorem m_isHeld {G : mG} {l : Launch} (d : Nat) {h : mH} {x s : Nat} {f4 f6 f8 f9 f10 f11 f12 f13 f14 f16 f18 : Int} {m kp was pool tape pln pap rwd rw : Nat → Int}(hB : isM h x (mFs x f4 f6 f8 f9 f10 f11 f12 f13 f14 f16 f18 s) m kp was pool tape pln pap rwd rw) (hM : ∀ q, InR (m q)) {a : Int} (h0 : 0 ≤ a) (h1 : a ≤ 89) : RUNM G l (d + 1) mX11_isHeld [.ref x, .int (J a)] h (fun v h' => v = some (.int (J (b01 (m (258 + 14 * a).toNat = 0)))) ∧ h' = h) := by
  dsimp only [mFs] at hB
  refine RUNM.of (by decide +kernel) (Nat.le_of_ble_eq_true rfl) ?_
  refine r_aload_n (pc := 0) dX11_isHeld_0 rfl (by first | rfl | exact isRefV_rf _) ?_
  refine rm_getf (pc := 1) dX11_isHeld_1 fX11_11 (by assumption) rfl ?_
  refine r_iload_n (pc := 4) dX11_isHeld_4 rfl ?_
  refine rj_iconst (pc := 5) dX11_isHeld_5 ?_
  refine rj_iconst (pc := 6) dX11_isHeld_6 ?_
  refine r_callS3 (pc := 7) dX11_isHeld_7 qX11_ofThing kX11_54 sX11_ofThing (Nat.le_of_ble_eq_true rfl) (m_ofThing d) (fun v_7 h_7 q_7 => ?_)
  obtain ⟨rfl, rfl⟩ := q_7
  refine rj_iald (pc := 10) dX11_isHeld_10 (by first | exact isM.g0 (by assumption) | exact isM.g3 (by assumption) | exact isM.g4 (by assumption) | exact isM.g8 (by assumption) | exact isM.g7 (by assumption) | exact isM.g6 (by assumption) | exact isM.g5 (by assumption) | exact isM.g1 (by assumption) | exact isM.g2 (by assumption)) (by first | assumption | exact b01_r | exact bz_r | omega | (constructor <;> omega) | exact hM _ | exact hPo _ | exact hTa _ | exact hRo _) (by first | assumption | exact b01_r | exact bz_r | omega | (constructor <;> omega) | exact hM _ | exact hPo _ | exact hTa _ | exact hRo _) (by first | assumption | exact b01_r | exact bz_r | omega | (constructor <;> omega) | exact hM _ | exact hPo _ | exact hTa _ | exact hRo _) rfl ?_
  rw [Int.add_zero, Int.add_zero]
  refine rj_if_ne (pc := 11) (tgt := 18) dX11_isHeld_11 (by decide) (by first | assumption | exact b01_r | exact bz_r | omega | (constructor <;> omega) | exact hM _ | exact hPo _ | exact hTa _ | exact hRo _) (fun c_11 => ?_) (fun c_11 => ?_)
  · try simp only [b01_0, bz_0, Classical.not_not] at c_11
    refine rj_iconst (pc := 18) dX11_isHeld_18 ?_
    refine r_ireturn (pc := 19) .boolean dX11_isHeld_19 rfl (by first | exact nar_J0 | exact nar_J1 | exact nar_b01 | exact nar_bz) ?_
    first
    | exact ⟨rfl, rfl⟩
    | exact ⟨vf (by omega), rfl⟩
    | exact ⟨vt (by omega), rfl⟩
  · try simp only [b01_0, bz_0, Classical.not_not] at c_11
    refine rj_iconst (pc := 14) dX11_isHeld_14 ?_
    refine r_goto (pc := 15) (tgt := 19) dX11_isHeld_15 (by decide) ?_
    refine r_ireturn (pc := 19) .boolean dX11_isHeld_19 rfl (by first | exact nar_J0 | exact nar_J1 | exact nar_b01 | exact nar_bz) ?_
    first
    | exact ⟨rfl, rfl⟩
    | exact ⟨vf (by omega), rfl⟩
    | exact ⟨vt (by omega), rfl⟩
set_option maxHeartbeats 4000000 in
set_option maxRecDepth 100000 in
theorem m_isReady {G : mG} {l : Launch} (d : Nat) {h : mH} {x s : Nat} {f4 f6 f8 f9 f10 f11 f12 f13 f14 f16 f18 : Int} {m kp was pool tape pln pap rwd rw : Nat → Int}(hB : isM h x (mFs x f4 f6 f8 f9 f10 f11 f12 f13 f14 f16 f18 s) m kp was pool tape pln pap rwd rw) (hM : ∀ q, InR (m q)) {a : Int} (h0 : 0 ≤ a) (h1 : a ≤ 9) : RUNM G l (d + 1) mX11_isReady [.ref x, .int (J a)] h (fun v h' => v = some (.int (J (b01 (m (1610 + 72 * a).toNat = 0)))) ∧ h' = h) := by
  dsimp only [mFs] at hB
  refine RUNM.of (by decide +kernel) (Nat.le_of_ble_eq_true rfl) ?_
  refine r_aload_n (pc := 0) dX11_isReady_0 rfl (by first | rfl | exact isRefV_rf _) ?_
  refine rm_getf (pc := 1) dX11_isReady_1 fX11_11 (by assumption) rfl ?_
  refine r_iload_n (pc := 4) dX11_isReady_4 rfl ?_
  refine rj_iconst (pc := 5) dX11_isReady_5 ?_
  refine rj_iconst (pc := 6) dX11_isReady_6 ?_
  refine r_callS3 (pc := 7) dX11_isReady_7 qX11_ofTask kX11_58 sX11_ofTask (Nat.le_of_ble_eq_true rfl) (m_ofTask d) (fun v_7 h_7 q_7 => ?_)
  obtain ⟨rfl, rfl⟩ := q_7
  refine rj_iald (pc := 10) dX11_isReady_10 (by first | exact isM.g0 (by assumption) | exact isM.g3 (by assumption) | exact isM.g4 (by assumption) | exact isM.g8 (by assumption) | exact isM.g7 (by assumption) | exact isM.g6 (by assumption) | exact isM.g5 (by assumption) | exact isM.g1 (by assumption) | exact isM.g2 (by assumption)) (by first | assumption | exact b01_r | exact bz_r | omega | (constructor <;> omega) | exact hM _ | exact hPo _ | exact hTa _ | exact hRo _) (by first | assumption | exact b01_r | exact bz_r | omega | (constructor <;> omega) | exact hM _ | exact hPo _ | exact hTa _ | exact hRo _) (by first | assumption | exact b01_r | exact bz_r | omega | (constructor <;> omega) | exact hM _ | exact hPo _ | exact hTa _ | exact hRo _) rfl ?_
  rw [Int.add_zero, show (1608 + 72 * a + 2 : Int) = 1610 + 72 * a by omega]
  refine rj_if_ne (pc := 11) (tgt := 18) dX11_isReady_11 (by decide) (by first | assumption | exact b01_r | exact bz_r | omega | (constructor <;> omega) | exact hM _ | exact hPo _ | exact hTa _ | exact hRo _) (fun c_11 => ?_) (fun c_11 => ?_)
  · try simp only [b01_0, bz_0, Classical.not_not] at c_11
    refine rj_iconst (pc := 18) dX11_isReady_18 ?_
    refine r_ireturn (pc := 19) .boolean dX11_isReady_19 rfl (by first | exact nar_J0 | exact nar_J1 | exact nar_b01 | exact nar_bz) ?_
    first
    | exact ⟨rfl, rfl⟩
    | exact ⟨vf (by omega), rfl⟩
    | exact ⟨vt (by omega), rfl⟩
  · try simp only [b01_0, bz_0, Classical.not_not] at c_11
    refine rj_iconst (pc := 14) dX11_isReady_14 ?_
    refine r_goto (pc := 15) (tgt := 19) dX11_isReady_15 (by decide) ?_
    refine r_ireturn (pc := 19) .boolean dX11_isReady_19 rfl (by first | exact nar_J0 | exact nar_J1 | exact nar_b01 | exact nar_bz) ?_
    first
    | exact ⟨rfl, rfl⟩
    | exact ⟨vf (by omega), rfl⟩
    | exact ⟨vt (by omega), rfl⟩
end mg_21
section mg_22
/-! ===== contracts of the reference: counting loops ===== -/
def cnt (p : Nat → Bool) : Nat → Int
  | 0 => 0
  | n + 1 => cnt p n + (if p n then 1 else 0)
theorem cnt_t {p : Nat → Bool} {n : Nat} (h : p n = true) : cnt p n + 1 = cnt p (n + 1) := by simp [cnt, h]
theorem cnt_f {p : Nat → Bool} {n : Nat} (h : p n = false) : cnt p n + 0 = cnt p (n + 1) := by simp [cnt, h]
theorem cnt_r (p : Nat → Bool) (n : Nat) : 0 ≤ cnt p n ∧ cnt p n ≤ n := by
  induction n with
  | zero => exact ⟨Int.le_refl _, Int.le_refl _⟩
  | succ n ih =>
    simp only [cnt]
    split <;> omega
def heldB (m : Nat → Int) (q : Nat) : Bool := decide (m (258 + 14 * q) = 0)
def openB (m : Nat → Int) (q : Nat) : Bool := decide (m (18 + 4 * q) = 0)
def readyB (m : Nat → Int) (q : Nat) : Bool := decide (m (1610 + 72 * q) = 0)
theorem n_held (t : Nat) : (258 + 14 * (t : Int)).toNat = 258 + 14 * t := by omega
theorem n_open (t : Nat) : (18 + 4 * (t : Int)).toNat = 18 + 4 * t := by omega
theorem n_ready (t : Nat) : (1610 + 72 * (t : Int)).toNat = 1610 + 72 * t := by omega
set_option maxHeartbeats 4000000 in
set_option maxRecDepth 100000 in
theorem L_held {G : mG} {l : Launch} (d : Nat) {h : mH} {x s : Nat} {f4 f6 f8 f9 f10 f11 f12 f13 f14 f16 f18 : Int} {m kp was pool tape pln pap rwd rw : Nat → Int}(hB : isM h x (mFs x f4 f6 f8 f9 f10 f11 f12 f13 f14 f16 f18 s) m kp was pool tape pln pap rwd rw) (hM : ∀ q, InR (m q)) {N : Nat} (hN : m 1 = (N : Int)) (hcap : N ≤ 90)  : ∀ k t : Nat, t + k = N → RUN G l (d + 2) mX11_held 4 [some (.ref x), some (.int (J (cnt (heldB m) t))), some (.int (J ((t : Int))))] [] h (fun v h' => v = some (.int (J (cnt (heldB m) N))) ∧ h' = h) := by
  dsimp only [mFs] at hB
  have rN := hM 1
  intro k
  induction k with
  | zero =>
    intro t ht
    refine r_iload_n (pc := 4) dX11_held_4 rfl ?_
    refine r_aload_n (pc := 5) dX11_held_5 rfl (by first | rfl | exact isRefV_rf _) ?_
    refine rm_getf (pc := 6) dX11_held_6 fX11_11 (by assumption) rfl ?_
    refine rj_iconst (pc := 9) dX11_held_9 ?_
    refine rj_iald (pc := 10) (j := 1) dX11_held_10 (by first | exact isM.g0 (by assumption) | exact isM.g3 (by assumption) | exact isM.g4 (by assumption) | exact isM.g8 (by assumption) | exact isM.g7 (by assumption) | exact isM.g6 (by assumption) | exact isM.g5 (by assumption) | exact isM.g1 (by assumption) | exact isM.g2 (by assumption)) (by first | assumption | exact b01_r | exact bz_r | omega | (constructor <;> omega) | exact hM _ | exact hPo _ | exact hTa _ | exact hRo _) (by first | assumption | exact b01_r | exact bz_r | omega | (constructor <;> omega) | exact hM _ | exact hPo _ | exact hTa _ | exact hRo _) (by first | assumption | exact b01_r | exact bz_r | omega | (constructor <;> omega) | exact hM _ | exact hPo _ | exact hTa _ | exact hRo _) rfl ?_
    refine rj_icmp_ge (pc := 11) (tgt := 36) dX11_held_11 (by decide) (by first | assumption | exact b01_r | exact bz_r | omega | (constructor <;> omega) | exact hM _ | exact hPo _ | exact hTa _ | exact hRo _) (by first | assumption | exact b01_r | exact bz_r | omega | (constructor <;> omega) | exact hM _ | exact hPo _ | exact hTa _ | exact hRo _) (fun c_11 => ?_) (fun c_11 => ?_)
    · refine r_iload_n (pc := 36) dX11_held_36 rfl ?_
      refine r_ireturn (pc := 37) .int dX11_held_37 rfl (by first | rfl | assumption) ?_
      have e : t = N := by omega
      subst e
      exact ⟨rfl, rfl⟩
    · refine r_iload_n (pc := 14) dX11_held_14 rfl ?_
      refine r_aload_n (pc := 15) dX11_held_15 rfl (by first | rfl | exact isRefV_rf _) ?_
      refine r_iload_n (pc := 16) dX11_held_16 rfl ?_
      refine r_callV1 (pc := 17) dX11_held_17 qX11_isHeld kX11_119 vX11_isHeld (by exact isM.gx (by assumption)) rfl rfl (Nat.le_of_ble_eq_true rfl) (m_isHeld d hB hM (by omega) (by omega)) (fun v_17 h_17 q_17 => ?_)
      obtain ⟨rfl, rfl⟩ := q_17
      refine rj_if_eq (pc := 20) (tgt := 27) dX11_held_20 (by decide) (by first | assumption | exact b01_r | exact bz_r | omega | (constructor <;> omega) | exact hM _ | exact hPo _ | exact hTa _ | exact hRo _) (fun c_20 => ?_) (fun c_20 => ?_)
      · try simp only [b01_0, bz_0, Classical.not_not] at c_20
        refine rj_iconst (pc := 27) dX11_held_27 ?_
        refine rj_iadd (pc := 28) dX11_held_28 ?_
        refine r_istore_n (pc := 29) dX11_held_29 (Nat.le_of_ble_eq_true rfl) ?_
        dsimp only [lsSt, List.set, mLs, mEnt]
        refine rj_iinc (pc := 30) dX11_held_30 (Nat.le_of_ble_eq_true rfl) rfl ?_
        dsimp only [lsSt, List.set, mLs, mEnt]
        refine r_goto (pc := 33) (tgt := 4) dX11_held_33 (by decide) ?_
        exfalso; omega
      · try simp only [b01_0, bz_0, Classical.not_not] at c_20
        refine rj_iconst (pc := 23) dX11_held_23 ?_
        refine r_goto (pc := 24) (tgt := 28) dX11_held_24 (by decide) ?_
        refine rj_iadd (pc := 28) dX11_held_28 ?_
        refine r_istore_n (pc := 29) dX11_held_29 (Nat.le_of_ble_eq_true rfl) ?_
        dsimp only [lsSt, List.set, mLs, mEnt]
        refine rj_iinc (pc := 30) dX11_held_30 (Nat.le_of_ble_eq_true rfl) rfl ?_
        dsimp only [lsSt, List.set, mLs, mEnt]
        refine r_goto (pc := 33) (tgt := 4) dX11_held_33 (by decide) ?_
        exfalso; omega
  | succ k ih =>
    intro t ht
    refine r_iload_n (pc := 4) dX11_held_4 rfl ?_
    refine r_aload_n (pc := 5) dX11_held_5 rfl (by first | rfl | exact isRefV_rf _) ?_
    refine rm_getf (pc := 6) dX11_held_6 fX11_11 (by assumption) rfl ?_
    refine rj_iconst (pc := 9) dX11_held_9 ?_
    refine rj_iald (pc := 10) (j := 1) dX11_held_10 (by first | exact isM.g0 (by assumption) | exact isM.g3 (by assumption) | exact isM.g4 (by assumption) | exact isM.g8 (by assumption) | exact isM.g7 (by assumption) | exact isM.g6 (by assumption) | exact isM.g5 (by assumption) | exact isM.g1 (by assumption) | exact isM.g2 (by assumption)) (by first | assumption | exact b01_r | exact bz_r | omega | (constructor <;> omega) | exact hM _ | exact hPo _ | exact hTa _ | exact hRo _) (by first | assumption | exact b01_r | exact bz_r | omega | (constructor <;> omega) | exact hM _ | exact hPo _ | exact hTa _ | exact hRo _) (by first | assumption | exact b01_r | exact bz_r | omega | (constructor <;> omega) | exact hM _ | exact hPo _ | exact hTa _ | exact hRo _) rfl ?_
    refine rj_icmp_ge (pc := 11) (tgt := 36) dX11_held_11 (by decide) (by first | assumption | exact b01_r | exact bz_r | omega | (constructor <;> omega) | exact hM _ | exact hPo _ | exact hTa _ | exact hRo _) (by first | assumption | exact b01_r | exact bz_r | omega | (constructor <;> omega) | exact hM _ | exact hPo _ | exact hTa _ | exact hRo _) (fun c_11 => ?_) (fun c_11 => ?_)
    · refine r_iload_n (pc := 36) dX11_held_36 rfl ?_
      refine r_ireturn (pc := 37) .int dX11_held_37 rfl (by first | rfl | assumption) ?_
      exfalso; omega
    · refine r_iload_n (pc := 14) dX11_held_14 rfl ?_
      refine r_aload_n (pc := 15) dX11_held_15 rfl (by first | rfl | exact isRefV_rf _) ?_
      refine r_iload_n (pc := 16) dX11_held_16 rfl ?_
      refine r_callV1 (pc := 17) dX11_held_17 qX11_isHeld kX11_119 vX11_isHeld (by exact isM.gx (by assumption)) rfl rfl (Nat.le_of_ble_eq_true rfl) (m_isHeld d hB hM (by omega) (by omega)) (fun v_17 h_17 q_17 => ?_)
      obtain ⟨rfl, rfl⟩ := q_17
      refine rj_if_eq (pc := 20) (tgt := 27) dX11_held_20 (by decide) (by first | assumption | exact b01_r | exact bz_r | omega | (constructor <;> omega) | exact hM _ | exact hPo _ | exact hTa _ | exact hRo _) (fun c_20 => ?_) (fun c_20 => ?_)
      · try simp only [b01_0, bz_0, Classical.not_not] at c_20
        refine rj_iconst (pc := 27) dX11_held_27 ?_
        refine rj_iadd (pc := 28) dX11_held_28 ?_
        refine r_istore_n (pc := 29) dX11_held_29 (Nat.le_of_ble_eq_true rfl) ?_
        dsimp only [lsSt, List.set, mLs, mEnt]
        refine rj_iinc (pc := 30) dX11_held_30 (Nat.le_of_ble_eq_true rfl) rfl ?_
        dsimp only [lsSt, List.set, mLs, mEnt]
        refine r_goto (pc := 33) (tgt := 4) dX11_held_33 (by decide) ?_
        have z := ih (t + 1) (by omega)
        rw [← cnt_f (by simp only [heldB, ← n_held, c_20, decide_true, decide_false])] at z
        exact z
      · try simp only [b01_0, bz_0, Classical.not_not] at c_20
        refine rj_iconst (pc := 23) dX11_held_23 ?_
        refine r_goto (pc := 24) (tgt := 28) dX11_held_24 (by decide) ?_
        refine rj_iadd (pc := 28) dX11_held_28 ?_
        refine r_istore_n (pc := 29) dX11_held_29 (Nat.le_of_ble_eq_true rfl) ?_
        dsimp only [lsSt, List.set, mLs, mEnt]
        refine rj_iinc (pc := 30) dX11_held_30 (Nat.le_of_ble_eq_true rfl) rfl ?_
        dsimp only [lsSt, List.set, mLs, mEnt]
        refine r_goto (pc := 33) (tgt := 4) dX11_held_33 (by decide) ?_
        have z := ih (t + 1) (by omega)
        rw [← cnt_t (by simp only [heldB, ← n_held, c_20, decide_true, decide_false])] at z
        exact z
set_option maxHeartbeats 4000000 in
set_option maxRecDepth 100000 in
theorem m_held {G : mG} {l : Launch} (d : Nat) {h : mH} {x s : Nat} {f4 f6 f8 f9 f10 f11 f12 f13 f14 f16 f18 : Int} {m kp was pool tape pln pap rwd rw : Nat → Int}(hB : isM h x (mFs x f4 f6 f8 f9 f10 f11 f12 f13 f14 f16 f18 s) m kp was pool tape pln pap rwd rw) (hM : ∀ q, InR (m q)) {N : Nat} (hN : m 1 = (N : Int)) (hcap : N ≤ 90)  : RUNM G l (d + 2) mX11_held [.ref x] h (fun v h' => v = some (.int (J (cnt (heldB m) N))) ∧ h' = h) := by
  refine RUNM.of (by decide +kernel) (Nat.le_of_ble_eq_true rfl) ?_
  refine rj_iconst (pc := 0) dX11_held_0 ?_
  refine r_istore_n (pc := 1) dX11_held_1 (Nat.le_of_ble_eq_true rfl) ?_
  dsimp only [lsSt, List.set, mLs, mEnt]
  refine rj_iconst (pc := 2) dX11_held_2 ?_
  refine r_istore_n (pc := 3) dX11_held_3 (Nat.le_of_ble_eq_true rfl) ?_
  dsimp only [lsSt, List.set, mLs, mEnt]
  exact L_held d hB hM hN hcap  N 0 (by omega)
set_option maxHeartbeats 4000000 in
set_option maxRecDepth 100000 in
theorem L_readyOnes {G : mG} {l : Launch} (d : Nat) {h : mH} {x s : Nat} {f4 f6 f8 f9 f10 f11 f12 f13 f14 f16 f18 : Int} {m kp was pool tape pln pap rwd rw : Nat → Int}(hB : isM h x (mFs x f4 f6 f8 f9 f10 f11 f12 f13 f14 f16 f18 s) m kp was pool tape pln pap rwd rw) (hM : ∀ q, InR (m q)) {N : Nat} (hN : m 3 = (N : Int)) (hcap : N ≤ 10)  : ∀ k t : Nat, t + k = N → RUN G l (d + 2) mX11_readyOnes 4 [some (.ref x), some (.int (J (cnt (readyB m) t))), some (.int (J ((t : Int))))] [] h (fun v h' => v = some (.int (J (cnt (readyB m) N))) ∧ h' = h) := by
  dsimp only [mFs] at hB
  have rN := hM 3
  intro k
  induction k with
  | zero =>
    intro t ht
    refine r_iload_n (pc := 4) dX11_readyOnes_4 rfl ?_
    refine r_aload_n (pc := 5) dX11_readyOnes_5 rfl (by first | rfl | exact isRefV_rf _) ?_
    refine rm_getf (pc := 6) dX11_readyOnes_6 fX11_11 (by assumption) rfl ?_
    refine rj_iconst (pc := 9) dX11_readyOnes_9 ?_
    refine rj_iald (pc := 10) (j := 3) dX11_readyOnes_10 (by first | exact isM.g0 (by assumption) | exact isM.g3 (by assumption) | exact isM.g4 (by assumption) | exact isM.g8 (by assumption) | exact isM.g7 (by assumption) | exact isM.g6 (by assumption) | exact isM.g5 (by assumption) | exact isM.g1 (by assumption) | exact isM.g2 (by assumption)) (by first | assumption | exact b01_r | exact bz_r | omega | (constructor <;> omega) | exact hM _ | exact hPo _ | exact hTa _ | exact hRo _) (by first | assumption | exact b01_r | exact bz_r | omega | (constructor <;> omega) | exact hM _ | exact hPo _ | exact hTa _ | exact hRo _) (by first | assumption | exact b01_r | exact bz_r | omega | (constructor <;> omega) | exact hM _ | exact hPo _ | exact hTa _ | exact hRo _) rfl ?_
    refine rj_icmp_ge (pc := 11) (tgt := 36) dX11_readyOnes_11 (by decide) (by first | assumption | exact b01_r | exact bz_r | omega | (constructor <;> omega) | exact hM _ | exact hPo _ | exact hTa _ | exact hRo _) (by first | assumption | exact b01_r | exact bz_r | omega | (constructor <;> omega) | exact hM _ | exact hPo _ | exact hTa _ | exact hRo _) (fun c_11 => ?_) (fun c_11 => ?_)
    · refine r_iload_n (pc := 36) dX11_readyOnes_36 rfl ?_
      refine r_ireturn (pc := 37) .int dX11_readyOnes_37 rfl (by first | rfl | assumption) ?_
      have e : t = N := by omega
      subst e
      exact ⟨rfl, rfl⟩
    · refine r_iload_n (pc := 14) dX11_readyOnes_14 rfl ?_
      refine r_aload_n (pc := 15) dX11_readyOnes_15 rfl (by first | rfl | exact isRefV_rf _) ?_
      refine r_iload_n (pc := 16) dX11_readyOnes_16 rfl ?_
      refine r_callV1 (pc := 17) dX11_readyOnes_17 qX11_isReady kX11_183 vX11_isReady (by exact isM.gx (by assumption)) rfl rfl (Nat.le_of_ble_eq_true rfl) (m_isReady d hB hM (by omega) (by omega)) (fun v_17 h_17 q_17 => ?_)
      obtain ⟨rfl, rfl⟩ := q_17
      refine rj_if_eq (pc := 20) (tgt := 27) dX11_readyOnes_20 (by decide) (by first | assumption | exact b01_r | exact bz_r | omega | (constructor <;> omega) | exact hM _ | exact hPo _ | exact hTa _ | exact hRo _) (fun c_20 => ?_) (fun c_20 => ?_)
      · try simp only [b01_0, bz_0, Classical.not_not] at c_20
        refine rj_iconst (pc := 27) dX11_readyOnes_27 ?_
        refine rj_iadd (pc := 28) dX11_readyOnes_28 ?_
        refine r_istore_n (pc := 29) dX11_readyOnes_29 (Nat.le_of_ble_eq_true rfl) ?_
        dsimp only [lsSt, List.set, mLs, mEnt]
        refine rj_iinc (pc := 30) dX11_readyOnes_30 (Nat.le_of_ble_eq_true rfl) rfl ?_
        dsimp only [lsSt, List.set, mLs, mEnt]
        refine r_goto (pc := 33) (tgt := 4) dX11_readyOnes_33 (by decide) ?_
        exfalso; omega
      · try simp only [b01_0, bz_0, Classical.not_not] at c_20
        refine rj_iconst (pc := 23) dX11_readyOnes_23 ?_
        refine r_goto (pc := 24) (tgt := 28) dX11_readyOnes_24 (by decide) ?_
        refine rj_iadd (pc := 28) dX11_readyOnes_28 ?_
        refine r_istore_n (pc := 29) dX11_readyOnes_29 (Nat.le_of_ble_eq_true rfl) ?_
        dsimp only [lsSt, List.set, mLs, mEnt]
        refine rj_iinc (pc := 30) dX11_readyOnes_30 (Nat.le_of_ble_eq_true rfl) rfl ?_
        dsimp only [lsSt, List.set, mLs, mEnt]
        refine r_goto (pc := 33) (tgt := 4) dX11_readyOnes_33 (by decide) ?_
        exfalso; omega
  | succ k ih =>
    intro t ht
    refine r_iload_n (pc := 4) dX11_readyOnes_4 rfl ?_
    refine r_aload_n (pc := 5) dX11_readyOnes_5 rfl (by first | rfl | exact isRefV_rf _) ?_
    refine rm_getf (pc := 6) dX11_readyOnes_6 fX11_11 (by assumption) rfl ?_
    refine rj_iconst (pc := 9) dX11_readyOnes_9 ?_
    refine rj_iald (pc := 10) (j := 3) dX11_readyOnes_10 (by first | exact isM.g0 (by assumption) | exact isM.g3 (by assumption) | exact isM.g4 (by assumption) | exact isM.g8 (by assumption) | exact isM.g7 (by assumption) | exact isM.g6 (by assumption) | exact isM.g5 (by assumption) | exact isM.g1 (by assumption) | exact isM.g2 (by assumption)) (by first | assumption | exact b01_r | exact bz_r | omega | (constructor <;> omega) | exact hM _ | exact hPo _ | exact hTa _ | exact hRo _) (by first | assumption | exact b01_r | exact bz_r | omega | (constructor <;> omega) | exact hM _ | exact hPo _ | exact hTa _ | exact hRo _) (by first | assumption | exact b01_r | exact bz_r | omega | (constructor <;> omega) | exact hM _ | exact hPo _ | exact hTa _ | exact hRo _) rfl ?_
    refine rj_icmp_ge (pc := 11) (tgt := 36) dX11_readyOnes_11 (by decide) (by first | assumption | exact b01_r | exact bz_r | omega | (constructor <;> omega) | exact hM _ | exact hPo _ | exact hTa _ | exact hRo _) (by first | assumption | exact b01_r | exact bz_r | omega | (constructor <;> omega) | exact hM _ | exact hPo _ | exact hTa _ | exact hRo _) (fun c_11 => ?_) (fun c_11 => ?_)
    · refine r_iload_n (pc := 36) dX11_readyOnes_36 rfl ?_
      refine r_ireturn (pc := 37) .int dX11_readyOnes_37 rfl (by first | rfl | assumption) ?_
      exfalso; omega
    · refine r_iload_n (pc := 14) dX11_readyOnes_14 rfl ?_
      refine r_aload_n (pc := 15) dX11_readyOnes_15 rfl (by first | rfl | exact isRefV_rf _) ?_
      refine r_iload_n (pc := 16) dX11_readyOnes_16 rfl ?_
      refine r_callV1 (pc := 17) dX11_readyOnes_17 qX11_isReady kX11_183 vX11_isReady (by exact isM.gx (by assumption)) rfl rfl (Nat.le_of_ble_eq_true rfl) (m_isReady d hB hM (by omega) (by omega)) (fun v_17 h_17 q_17 => ?_)
      obtain ⟨rfl, rfl⟩ := q_17
      refine rj_if_eq (pc := 20) (tgt := 27) dX11_readyOnes_20 (by decide) (by first | assumption | exact b01_r | exact bz_r | omega | (constructor <;> omega) | exact hM _ | exact hPo _ | exact hTa _ | exact hRo _) (fun c_20 => ?_) (fun c_20 => ?_)
      · try simp only [b01_0, bz_0, Classical.not_not] at c_20
        refine rj_iconst (pc := 27) dX11_readyOnes_27 ?_
        refine rj_iadd (pc := 28) dX11_readyOnes_28 ?_
        refine r_istore_n (pc := 29) dX11_readyOnes_29 (Nat.le_of_ble_eq_true rfl) ?_
        dsimp only [lsSt, List.set, mLs, mEnt]
        refine rj_iinc (pc := 30) dX11_readyOnes_30 (Nat.le_of_ble_eq_true rfl) rfl ?_
        dsimp only [lsSt, List.set, mLs, mEnt]
        refine r_goto (pc := 33) (tgt := 4) dX11_readyOnes_33 (by decide) ?_
        have z := ih (t + 1) (by omega)
        rw [← cnt_f (by simp only [readyB, ← n_ready, c_20, decide_true, decide_false])] at z
        exact z
      · try simp only [b01_0, bz_0, Classical.not_not] at c_20
        refine rj_iconst (pc := 23) dX11_readyOnes_23 ?_
        refine r_goto (pc := 24) (tgt := 28) dX11_readyOnes_24 (by decide) ?_
        refine rj_iadd (pc := 28) dX11_readyOnes_28 ?_
        refine r_istore_n (pc := 29) dX11_readyOnes_29 (Nat.le_of_ble_eq_true rfl) ?_
        dsimp only [lsSt, List.set, mLs, mEnt]
        refine rj_iinc (pc := 30) dX11_readyOnes_30 (Nat.le_of_ble_eq_true rfl) rfl ?_
        dsimp only [lsSt, List.set, mLs, mEnt]
        refine r_goto (pc := 33) (tgt := 4) dX11_readyOnes_33 (by decide) ?_
        have z := ih (t + 1) (by omega)
        rw [← cnt_t (by simp only [readyB, ← n_ready, c_20, decide_true, decide_false])] at z
        exact z
set_option maxHeartbeats 4000000 in
set_option maxRecDepth 100000 in
theorem m_readyOnes {G : mG} {l : Launch} (d : Nat) {h : mH} {x s : Nat} {f4 f6 f8 f9 f10 f11 f12 f13 f14 f16 f18 : Int} {m kp was pool tape pln pap rwd rw : Nat → Int}(hB : isM h x (mFs x f4 f6 f8 f9 f10 f11 f12 f13 f14 f16 f18 s) m kp was pool tape pln pap rwd rw) (hM : ∀ q, InR (m q)) {N : Nat} (hN : m 3 = (N : Int)) (hcap : N ≤ 10)  : RUNM G l (d + 2) mX11_readyOnes [.ref x] h (fun v h' => v = some (.int (J (cnt (readyB m) N))) ∧ h' = h) := by
  refine RUNM.of (by decide +kernel) (Nat.le_of_ble_eq_true rfl) ?_
  refine rj_iconst (pc := 0) dX11_readyOnes_0 ?_
  refine r_istore_n (pc := 1) dX11_readyOnes_1 (Nat.le_of_ble_eq_true rfl) ?_
  dsimp only [lsSt, List.set, mLs, mEnt]
  refine rj_iconst (pc := 2) dX11_readyOnes_2 ?_
  refine r_istore_n (pc := 3) dX11_readyOnes_3 (Nat.le_of_ble_eq_true rfl) ?_
  dsimp only [lsSt, List.set, mLs, mEnt]
  exact L_readyOnes d hB hM hN hcap  N 0 (by omega)
def shutB (m : Nat → Int) (a : Int) (q : Nat) : Bool := decide (m (21 + 4 * q) = a ∧ ¬ m (18 + 4 * q) = 2)
def faultB (m : Nat → Int) (a : Int) (q : Nat) : Bool := decide (m (2328 + 3 * q) = a)
def entTB (m : Nat → Int) (a : Int) (q : Nat) : Bool := decide (m (258 + 14 * q) = 0 ∧ m (259 + 14 * q) = a)
def entSB (m : Nat → Int) (a : Int) (q : Nat) : Bool := decide (¬ m (18 + 4 * q) = 2 ∧ m (19 + 4 * q) = a)
theorem n_sc3 (t : Nat) : (18 + 4 * (t : Int) + 3).toNat = 21 + 4 * t := by omega
theorem n_sc0 (t : Nat) : (18 + 4 * (t : Int) + 0).toNat = 18 + 4 * t := by omega
theorem n_sc1 (t : Nat) : (18 + 4 * (t : Int) + 1).toNat = 19 + 4 * t := by omega
theorem n_th1 (t : Nat) : (258 + 14 * (t : Int) + 1 + 0).toNat = 259 + 14 * t := by omega
theorem n_fa (t : Nat) : (2328 + 3 * (t : Int)).toNat = 2328 + 3 * t := by omega
set_option maxHeartbeats 4000000 in
set_option maxRecDepth 100000 in
theorem L_opened {G : mG} {l : Launch} (d : Nat) {h : mH} {x s : Nat} {f4 f6 f8 f9 f10 f11 f12 f13 f14 f16 f18 : Int} {m kp was pool tape pln pap rwd rw : Nat → Int}(hB : isM h x (mFs x f4 f6 f8 f9 f10 f11 f12 f13 f14 f16 f18 s) m kp was pool tape pln pap rwd rw) (hM : ∀ q, InR (m q)) {N : Nat} (hN : m 0 = (N : Int)) (hcap : N ≤ 60)  : ∀ k t : Nat, t + k = N → RUN G l (d + 3) mX11_opened 4 [some (.ref x), some (.int (J (cnt (openB m) t))), some (.int (J ((t : Int))))] [] h (fun v h' => v = some (.int (J (cnt (openB m) N))) ∧ h' = h) := by
  dsimp only [mFs] at hB
  have rN := hM 0
  intro k
  induction k with
  | zero =>
    intro t ht
    refine r_iload_n (pc := 4) dX11_opened_4 rfl ?_
    refine r_aload_n (pc := 5) dX11_opened_5 rfl (by first | rfl | exact isRefV_rf _) ?_
    refine rm_getf (pc := 6) dX11_opened_6 fX11_11 (by assumption) rfl ?_
    refine rj_iconst (pc := 9) dX11_opened_9 ?_
    refine rj_iald (pc := 10) (j := 0) dX11_opened_10 (by first | exact isM.g0 (by assumption) | exact isM.g3 (by assumption) | exact isM.g4 (by assumption) | exact isM.g8 (by assumption) | exact isM.g7 (by assumption) | exact isM.g6 (by assumption) | exact isM.g5 (by assumption) | exact isM.g1 (by assumption) | exact isM.g2 (by assumption)) (by first | assumption | exact b01_r | exact bz_r | omega | (constructor <;> omega) | exact hM _ | exact hPo _ | exact hTa _ | exact hRo _) (by first | assumption | exact b01_r | exact bz_r | omega | (constructor <;> omega) | exact hM _ | exact hPo _ | exact hTa _ | exact hRo _) (by first | assumption | exact b01_r | exact bz_r | omega | (constructor <;> omega) | exact hM _ | exact hPo _ | exact hTa _ | exact hRo _) rfl ?_
    refine rj_icmp_ge (pc := 11) (tgt := 36) dX11_opened_11 (by decide) (by first | assumption | exact b01_r | exact bz_r | omega | (constructor <;> omega) | exact hM _ | exact hPo _ | exact hTa _ | exact hRo _) (by first | assumption | exact b01_r | exact bz_r | omega | (constructor <;> omega) | exact hM _ | exact hPo _ | exact hTa _ | exact hRo _) (fun c_11 => ?_) (fun c_11 => ?_)
    · refine r_iload_n (pc := 36) dX11_opened_36 rfl ?_
      refine r_ireturn (pc := 37) .int dX11_opened_37 rfl (by first | rfl | assumption) ?_
      have e : t = N := by omega
      subst e
      exact ⟨rfl, rfl⟩
    · refine r_iload_n (pc := 14) dX11_opened_14 rfl ?_
      refine r_aload_n (pc := 15) dX11_opened_15 rfl (by first | rfl | exact isRefV_rf _) ?_
      refine r_iload_n (pc := 16) dX11_opened_16 rfl ?_
      refine r_callV1 (pc := 17) dX11_opened_17 qX11_isOpen kX11_146 vX11_isOpen (by exact isM.gx (by assumption)) rfl rfl (Nat.le_of_ble_eq_true rfl) (m_isOpen d hB hM ⟨by omega, by omega⟩ ⟨by omega, by omega⟩) (fun v_17 h_17 q_17 => ?_)
      obtain ⟨rfl, rfl⟩ := q_17
      refine rj_if_eq (pc := 20) (tgt := 27) dX11_opened_20 (by decide) (by first | assumption | exact b01_r | exact bz_r | omega | (constructor <;> omega) | exact hM _ | exact hPo _ | exact hTa _ | exact hRo _) (fun c_20 => ?_) (fun c_20 => ?_)
      · try simp only [b01_0, bz_0, Classical.not_not] at c_20
        refine rj_iconst (pc := 27) dX11_opened_27 ?_
        refine rj_iadd (pc := 28) dX11_opened_28 ?_
        refine r_istore_n (pc := 29) dX11_opened_29 (Nat.le_of_ble_eq_true rfl) ?_
        dsimp only [lsSt, List.set, mLs, mEnt]
        refine rj_iinc (pc := 30) dX11_opened_30 (Nat.le_of_ble_eq_true rfl) rfl ?_
        dsimp only [lsSt, List.set, mLs, mEnt]
        refine r_goto (pc := 33) (tgt := 4) dX11_opened_33 (by decide) ?_
        exfalso; omega
      · try simp only [b01_0, bz_0, Classical.not_not] at c_20
        refine rj_iconst (pc := 23) dX11_opened_23 ?_
        refine r_goto (pc := 24) (tgt := 28) dX11_opened_24 (by decide) ?_
        refine rj_iadd (pc := 28) dX11_opened_28 ?_
        refine r_istore_n (pc := 29) dX11_opened_29 (Nat.le_of_ble_eq_true rfl) ?_
        dsimp only [lsSt, List.set, mLs, mEnt]
        refine rj_iinc (pc := 30) dX11_opened_30 (Nat.le_of_ble_eq_true rfl) rfl ?_
        dsimp only [lsSt, List.set, mLs, mEnt]
        refine r_goto (pc := 33) (tgt := 4) dX11_opened_33 (by decide) ?_
        exfalso; omega
  | succ k ih =>
    intro t ht
    refine r_iload_n (pc := 4) dX11_opened_4 rfl ?_
    refine r_aload_n (pc := 5) dX11_opened_5 rfl (by first | rfl | exact isRefV_rf _) ?_
    refine rm_getf (pc := 6) dX11_opened_6 fX11_11 (by assumption) rfl ?_
    refine rj_iconst (pc := 9) dX11_opened_9 ?_
    refine rj_iald (pc := 10) (j := 0) dX11_opened_10 (by first | exact isM.g0 (by assumption) | exact isM.g3 (by assumption) | exact isM.g4 (by assumption) | exact isM.g8 (by assumption) | exact isM.g7 (by assumption) | exact isM.g6 (by assumption) | exact isM.g5 (by assumption) | exact isM.g1 (by assumption) | exact isM.g2 (by assumption)) (by first | assumption | exact b01_r | exact bz_r | omega | (constructor <;> omega) | exact hM _ | exact hPo _ | exact hTa _ | exact hRo _) (by first | assumption | exact b01_r | exact bz_r | omega | (constructor <;> omega) | exact hM _ | exact hPo _ | exact hTa _ | exact hRo _) (by first | assumption | exact b01_r | exact bz_r | omega | (constructor <;> omega) | exact hM _ | exact hPo _ | exact hTa _ | exact hRo _) rfl ?_
    refine rj_icmp_ge (pc := 11) (tgt := 36) dX11_opened_11 (by decide) (by first | assumption | exact b01_r | exact bz_r | omega | (constructor <;> omega) | exact hM _ | exact hPo _ | exact hTa _ | exact hRo _) (by first | assumption | exact b01_r | exact bz_r | omega | (constructor <;> omega) | exact hM _ | exact hPo _ | exact hTa _ | exact hRo _) (fun c_11 => ?_) (fun c_11 => ?_)
    · refine r_iload_n (pc := 36) dX11_opened_36 rfl ?_
      refine r_ireturn (pc := 37) .int dX11_opened_37 rfl (by first | rfl | assumption) ?_
      exfalso; omega
    · refine r_iload_n (pc := 14) dX11_opened_14 rfl ?_
      refine r_aload_n (pc := 15) dX11_opened_15 rfl (by first | rfl | exact isRefV_rf _) ?_
      refine r_iload_n (pc := 16) dX11_opened_16 rfl ?_
      refine r_callV1 (pc := 17) dX11_opened_17 qX11_isOpen kX11_146 vX11_isOpen (by exact isM.gx (by assumption)) rfl rfl (Nat.le_of_ble_eq_true rfl) (m_isOpen d hB hM ⟨by omega, by omega⟩ ⟨by omega, by omega⟩) (fun v_17 h_17 q_17 => ?_)
      obtain ⟨rfl, rfl⟩ := q_17
      refine rj_if_eq (pc := 20) (tgt := 27) dX11_opened_20 (by decide) (by first | assumption | exact b01_r | exact bz_r | omega | (constructor <;> omega) | exact hM _ | exact hPo _ | exact hTa _ | exact hRo _) (fun c_20 => ?_) (fun c_20 => ?_)
      · try simp only [b01_0, bz_0, Classical.not_not] at c_20
        refine rj_iconst (pc := 27) dX11_opened_27 ?_
        refine rj_iadd (pc := 28) dX11_opened_28 ?_
        refine r_istore_n (pc := 29) dX11_opened_29 (Nat.le_of_ble_eq_true rfl) ?_
        dsimp only [lsSt, List.set, mLs, mEnt]
        refine rj_iinc (pc := 30) dX11_opened_30 (Nat.le_of_ble_eq_true rfl) rfl ?_
        dsimp only [lsSt, List.set, mLs, mEnt]
        refine r_goto (pc := 33) (tgt := 4) dX11_opened_33 (by decide) ?_
        have z := ih (t + 1) (by omega)
        rw [← cnt_f (by first | exact decide_eq_true (by (try simp only [n_open, n_held, n_ready, n_sc0, n_sc1, n_sc3, n_th1, n_fa] at *); omega) | exact decide_eq_false (by (try simp only [n_open, n_held, n_ready, n_sc0, n_sc1, n_sc3, n_th1, n_fa] at *); omega))] at z
        exact z
      · try simp only [b01_0, bz_0, Classical.not_not] at c_20
        refine rj_iconst (pc := 23) dX11_opened_23 ?_
        refine r_goto (pc := 24) (tgt := 28) dX11_opened_24 (by decide) ?_
        refine rj_iadd (pc := 28) dX11_opened_28 ?_
        refine r_istore_n (pc := 29) dX11_opened_29 (Nat.le_of_ble_eq_true rfl) ?_
        dsimp only [lsSt, List.set, mLs, mEnt]
        refine rj_iinc (pc := 30) dX11_opened_30 (Nat.le_of_ble_eq_true rfl) rfl ?_
        dsimp only [lsSt, List.set, mLs, mEnt]
        refine r_goto (pc := 33) (tgt := 4) dX11_opened_33 (by decide) ?_
        have z := ih (t + 1) (by omega)
        rw [← cnt_t (by first | exact decide_eq_true (by (try simp only [n_open, n_held, n_ready, n_sc0, n_sc1, n_sc3, n_th1, n_fa] at *); omega) | exact decide_eq_false (by (try simp only [n_open, n_held, n_ready, n_sc0, n_sc1, n_sc3, n_th1, n_fa] at *); omega))] at z
        exact z
set_option maxHeartbeats 4000000 in
set_option maxRecDepth 100000 in
theorem m_opened {G : mG} {l : Launch} (d : Nat) {h : mH} {x s : Nat} {f4 f6 f8 f9 f10 f11 f12 f13 f14 f16 f18 : Int} {m kp was pool tape pln pap rwd rw : Nat → Int}(hB : isM h x (mFs x f4 f6 f8 f9 f10 f11 f12 f13 f14 f16 f18 s) m kp was pool tape pln pap rwd rw) (hM : ∀ q, InR (m q)) {N : Nat} (hN : m 0 = (N : Int)) (hcap : N ≤ 60)  : RUNM G l (d + 3) mX11_opened [.ref x] h (fun v h' => v = some (.int (J (cnt (openB m) N))) ∧ h' = h) := by
  refine RUNM.of (by decide +kernel) (Nat.le_of_ble_eq_true rfl) ?_
  refine rj_iconst (pc := 0) dX11_opened_0 ?_
  refine r_istore_n (pc := 1) dX11_opened_1 (Nat.le_of_ble_eq_true rfl) ?_
  dsimp only [lsSt, List.set, mLs, mEnt]
  refine rj_iconst (pc := 2) dX11_opened_2 ?_
  refine r_istore_n (pc := 3) dX11_opened_3 (Nat.le_of_ble_eq_true rfl) ?_
  dsimp only [lsSt, List.set, mLs, mEnt]
  exact L_opened d hB hM hN hcap  N 0 (by omega)
set_option maxHeartbeats 4000000 in
set_option maxRecDepth 100000 in
theorem L_notShut {G : mG} {l : Launch} (d : Nat) {h : mH} {x s : Nat} {f4 f6 f8 f9 f10 f11 f12 f13 f14 f16 f18 : Int} {m kp was pool tape pln pap rwd rw : Nat → Int}(hB : isM h x (mFs x f4 f6 f8 f9 f10 f11 f12 f13 f14 f16 f18 s) m kp was pool tape pln pap rwd rw) (hM : ∀ q, InR (m q)) {N : Nat} (hN : m 0 = (N : Int)) (hcap : N ≤ 60) {a : Int} (ha : InR a) : ∀ k t : Nat, t + k = N → RUN G l (d + 2) mX11_notShut 4 [some (.ref x), some (.int (J a)), some (.int (J (cnt (shutB m a) t))), some (.int (J ((t : Int))))] [] h (fun v h' => v = some (.int (J (cnt (shutB m a) N))) ∧ h' = h) := by
  dsimp only [mFs] at hB
  have rN := hM 0
  intro k
  induction k with
  | zero =>
    intro t ht
    refine r_iload_n (pc := 4) dX11_notShut_4 rfl ?_
    refine r_aload_n (pc := 5) dX11_notShut_5 rfl (by first | rfl | exact isRefV_rf _) ?_
    refine rm_getf (pc := 6) dX11_notShut_6 fX11_11 (by assumption) rfl ?_
    refine rj_iconst (pc := 9) dX11_notShut_9 ?_
    refine rj_iald (pc := 10) (j := 0) dX11_notShut_10 (by first | exact isM.g0 (by assumption) | exact isM.g3 (by assumption) | exact isM.g4 (by assumption) | exact isM.g8 (by assumption) | exact isM.g7 (by assumption) | exact isM.g6 (by assumption) | exact isM.g5 (by assumption) | exact isM.g1 (by assumption) | exact isM.g2 (by assumption)) (by first | assumption | exact b01_r | exact bz_r | omega | (constructor <;> omega) | exact hM _ | exact hPo _ | exact hTa _ | exact hRo _) (by first | assumption | exact b01_r | exact bz_r | omega | (constructor <;> omega) | exact hM _ | exact hPo _ | exact hTa _ | exact hRo _) (by first | assumption | exact b01_r | exact bz_r | omega | (constructor <;> omega) | exact hM _ | exact hPo _ | exact hTa _ | exact hRo _) rfl ?_
    refine rj_icmp_ge (pc := 11) (tgt := 56) dX11_notShut_11 (by decide) (by first | assumption | exact b01_r | exact bz_r | omega | (constructor <;> omega) | exact hM _ | exact hPo _ | exact hTa _ | exact hRo _) (by first | assumption | exact b01_r | exact bz_r | omega | (constructor <;> omega) | exact hM _ | exact hPo _ | exact hTa _ | exact hRo _) (fun c_11 => ?_) (fun c_11 => ?_)
    · refine r_iload_n (pc := 56) dX11_notShut_56 rfl ?_
      refine r_ireturn (pc := 57) .int dX11_notShut_57 rfl (by first | rfl | assumption) ?_
      have e : t = N := by omega
      subst e
      exact ⟨rfl, rfl⟩
    · refine r_iload_n (pc := 14) dX11_notShut_14 rfl ?_
      refine r_aload_n (pc := 15) dX11_notShut_15 rfl (by first | rfl | exact isRefV_rf _) ?_
      refine rm_getf (pc := 16) dX11_notShut_16 fX11_11 (by assumption) rfl ?_
      refine r_iload_n (pc := 19) dX11_notShut_19 rfl ?_
      refine rj_iconst (pc := 20) dX11_notShut_20 ?_
      refine r_callS2 (pc := 21) dX11_notShut_21 qX11_ofScope kX11_42 sX11_ofScope (Nat.le_of_ble_eq_true rfl) (m_ofScope (d + 1)) (fun v_21 h_21 q_21 => ?_)
      obtain ⟨rfl, rfl⟩ := q_21
      refine rj_iald (pc := 24) dX11_notShut_24 (by first | exact isM.g0 (by assumption) | exact isM.g3 (by assumption) | exact isM.g4 (by assumption) | exact isM.g8 (by assumption) | exact isM.g7 (by assumption) | exact isM.g6 (by assumption) | exact isM.g5 (by assumption) | exact isM.g1 (by assumption) | exact isM.g2 (by assumption)) (by first | assumption | exact b01_r | exact bz_r | omega | (constructor <;> omega) | exact hM _ | exact hPo _ | exact hTa _ | exact hRo _) (by first | assumption | exact b01_r | exact bz_r | omega | (constructor <;> omega) | exact hM _ | exact hPo _ | exact hTa _ | exact hRo _) (by first | assumption | exact b01_r | exact bz_r | omega | (constructor <;> omega) | exact hM _ | exact hPo _ | exact hTa _ | exact hRo _) rfl ?_
      refine r_iload_n (pc := 25) dX11_notShut_25 rfl ?_
      refine rj_icmp_ne (pc := 26) (tgt := 47) dX11_notShut_26 (by decide) (by first | assumption | exact b01_r | exact bz_r | omega | (constructor <;> omega) | exact hM _ | exact hPo _ | exact hTa _ | exact hRo _) (by first | assumption | exact b01_r | exact bz_r | omega | (constructor <;> omega) | exact hM _ | exact hPo _ | exact hTa _ | exact hRo _) (fun c_26 => ?_) (fun c_26 => ?_)
      · refine rj_iconst (pc := 47) dX11_notShut_47 ?_
        refine rj_iadd (pc := 48) dX11_notShut_48 ?_
        refine r_istore_n (pc := 49) dX11_notShut_49 (Nat.le_of_ble_eq_true rfl) ?_
        dsimp only [lsSt, List.set, mLs, mEnt]
        refine rj_iinc (pc := 50) dX11_notShut_50 (Nat.le_of_ble_eq_true rfl) rfl ?_
        dsimp only [lsSt, List.set, mLs, mEnt]
        refine r_goto (pc := 53) (tgt := 4) dX11_notShut_53 (by decide) ?_
        exfalso; omega
      · refine r_aload_n (pc := 29) dX11_notShut_29 rfl (by first | rfl | exact isRefV_rf _) ?_
        refine rm_getf (pc := 30) dX11_notShut_30 fX11_11 (by assumption) rfl ?_
        refine r_iload_n (pc := 33) dX11_notShut_33 rfl ?_
        refine rj_iconst (pc := 34) dX11_notShut_34 ?_
        refine r_callS2 (pc := 35) dX11_notShut_35 qX11_ofScope kX11_42 sX11_ofScope (Nat.le_of_ble_eq_true rfl) (m_ofScope (d + 1)) (fun v_35 h_35 q_35 => ?_)
        obtain ⟨rfl, rfl⟩ := q_35
        refine rj_iald (pc := 38) dX11_notShut_38 (by first | exact isM.g0 (by assumption) | exact isM.g3 (by assumption) | exact isM.g4 (by assumption) | exact isM.g8 (by assumption) | exact isM.g7 (by assumption) | exact isM.g6 (by assumption) | exact isM.g5 (by assumption) | exact isM.g1 (by assumption) | exact isM.g2 (by assumption)) (by first | assumption | exact b01_r | exact bz_r | omega | (constructor <;> omega) | exact hM _ | exact hPo _ | exact hTa _ | exact hRo _) (by first | assumption | exact b01_r | exact bz_r | omega | (constructor <;> omega) | exact hM _ | exact hPo _ | exact hTa _ | exact hRo _) (by first | assumption | exact b01_r | exact bz_r | omega | (constructor <;> omega) | exact hM _ | exact hPo _ | exact hTa _ | exact hRo _) rfl ?_
        refine rj_iconst (pc := 39) dX11_notShut_39 ?_
        refine rj_icmp_eq (pc := 40) (tgt := 47) dX11_notShut_40 (by decide) (by first | assumption | exact b01_r | exact bz_r | omega | (constructor <;> omega) | exact hM _ | exact hPo _ | exact hTa _ | exact hRo _) (by first | assumption | exact b01_r | exact bz_r | omega | (constructor <;> omega) | exact hM _ | exact hPo _ | exact hTa _ | exact hRo _) (fun c_40 => ?_) (fun c_40 => ?_)
        · refine rj_iconst (pc := 47) dX11_notShut_47 ?_
          refine rj_iadd (pc := 48) dX11_notShut_48 ?_
          refine r_istore_n (pc := 49) dX11_notShut_49 (Nat.le_of_ble_eq_true rfl) ?_
          dsimp only [lsSt, List.set, mLs, mEnt]
          refine rj_iinc (pc := 50) dX11_notShut_50 (Nat.le_of_ble_eq_true rfl) rfl ?_
          dsimp only [lsSt, List.set, mLs, mEnt]
          refine r_goto (pc := 53) (tgt := 4) dX11_notShut_53 (by decide) ?_
          exfalso; omega
        · refine rj_iconst (pc := 43) dX11_notShut_43 ?_
          refine r_goto (pc := 44) (tgt := 48) dX11_notShut_44 (by decide) ?_
          refine rj_iadd (pc := 48) dX11_notShut_48 ?_
          refine r_istore_n (pc := 49) dX11_notShut_49 (Nat.le_of_ble_eq_true rfl) ?_
          dsimp only [lsSt, List.set, mLs, mEnt]
          refine rj_iinc (pc := 50) dX11_notShut_50 (Nat.le_of_ble_eq_true rfl) rfl ?_
          dsimp only [lsSt, List.set, mLs, mEnt]
          refine r_goto (pc := 53) (tgt := 4) dX11_notShut_53 (by decide) ?_
          exfalso; omega
  | succ k ih =>
    intro t ht
    refine r_iload_n (pc := 4) dX11_notShut_4 rfl ?_
    refine r_aload_n (pc := 5) dX11_notShut_5 rfl (by first | rfl | exact isRefV_rf _) ?_
    refine rm_getf (pc := 6) dX11_notShut_6 fX11_11 (by assumption) rfl ?_
    refine rj_iconst (pc := 9) dX11_notShut_9 ?_
    refine rj_iald (pc := 10) (j := 0) dX11_notShut_10 (by first | exact isM.g0 (by assumption) | exact isM.g3 (by assumption) | exact isM.g4 (by assumption) | exact isM.g8 (by assumption) | exact isM.g7 (by assumption) | exact isM.g6 (by assumption) | exact isM.g5 (by assumption) | exact isM.g1 (by assumption) | exact isM.g2 (by assumption)) (by first | assumption | exact b01_r | exact bz_r | omega | (constructor <;> omega) | exact hM _ | exact hPo _ | exact hTa _ | exact hRo _) (by first | assumption | exact b01_r | exact bz_r | omega | (constructor <;> omega) | exact hM _ | exact hPo _ | exact hTa _ | exact hRo _) (by first | assumption | exact b01_r | exact bz_r | omega | (constructor <;> omega) | exact hM _ | exact hPo _ | exact hTa _ | exact hRo _) rfl ?_
    refine rj_icmp_ge (pc := 11) (tgt := 56) dX11_notShut_11 (by decide) (by first | assumption | exact b01_r | exact bz_r | omega | (constructor <;> omega) | exact hM _ | exact hPo _ | exact hTa _ | exact hRo _) (by first | assumption | exact b01_r | exact bz_r | omega | (constructor <;> omega) | exact hM _ | exact hPo _ | exact hTa _ | exact hRo _) (fun c_11 => ?_) (fun c_11 => ?_)
    · refine r_iload_n (pc := 56) dX11_notShut_56 rfl ?_
      refine r_ireturn (pc := 57) .int dX11_notShut_57 rfl (by first | rfl | assumption) ?_
      exfalso; omega
    · refine r_iload_n (pc := 14) dX11_notShut_14 rfl ?_
      refine r_aload_n (pc := 15) dX11_notShut_15 rfl (by first | rfl | exact isRefV_rf _) ?_
      refine rm_getf (pc := 16) dX11_notShut_16 fX11_11 (by assumption) rfl ?_
      refine r_iload_n (pc := 19) dX11_notShut_19 rfl ?_
      refine rj_iconst (pc := 20) dX11_notShut_20 ?_
      refine r_callS2 (pc := 21) dX11_notShut_21 qX11_ofScope kX11_42 sX11_ofScope (Nat.le_of_ble_eq_true rfl) (m_ofScope (d + 1)) (fun v_21 h_21 q_21 => ?_)
      obtain ⟨rfl, rfl⟩ := q_21
      refine rj_iald (pc := 24) dX11_notShut_24 (by first | exact isM.g0 (by assumption) | exact isM.g3 (by assumption) | exact isM.g4 (by assumption) | exact isM.g8 (by assumption) | exact isM.g7 (by assumption) | exact isM.g6 (by assumption) | exact isM.g5 (by assumption) | exact isM.g1 (by assumption) | exact isM.g2 (by assumption)) (by first | assumption | exact b01_r | exact bz_r | omega | (constructor <;> omega) | exact hM _ | exact hPo _ | exact hTa _ | exact hRo _) (by first | assumption | exact b01_r | exact bz_r | omega | (constructor <;> omega) | exact hM _ | exact hPo _ | exact hTa _ | exact hRo _) (by first | assumption | exact b01_r | exact bz_r | omega | (constructor <;> omega) | exact hM _ | exact hPo _ | exact hTa _ | exact hRo _) rfl ?_
      refine r_iload_n (pc := 25) dX11_notShut_25 rfl ?_
      refine rj_icmp_ne (pc := 26) (tgt := 47) dX11_notShut_26 (by decide) (by first | assumption | exact b01_r | exact bz_r | omega | (constructor <;> omega) | exact hM _ | exact hPo _ | exact hTa _ | exact hRo _) (by first | assumption | exact b01_r | exact bz_r | omega | (constructor <;> omega) | exact hM _ | exact hPo _ | exact hTa _ | exact hRo _) (fun c_26 => ?_) (fun c_26 => ?_)
      · refine rj_iconst (pc := 47) dX11_notShut_47 ?_
        refine rj_iadd (pc := 48) dX11_notShut_48 ?_
        refine r_istore_n (pc := 49) dX11_notShut_49 (Nat.le_of_ble_eq_true rfl) ?_
        dsimp only [lsSt, List.set, mLs, mEnt]
        refine rj_iinc (pc := 50) dX11_notShut_50 (Nat.le_of_ble_eq_true rfl) rfl ?_
        dsimp only [lsSt, List.set, mLs, mEnt]
        refine r_goto (pc := 53) (tgt := 4) dX11_notShut_53 (by decide) ?_
        have z := ih (t + 1) (by omega)
        rw [← cnt_f (by first | exact decide_eq_true (by (try simp only [n_open, n_held, n_ready, n_sc0, n_sc1, n_sc3, n_th1, n_fa] at *); omega) | exact decide_eq_false (by (try simp only [n_open, n_held, n_ready, n_sc0, n_sc1, n_sc3, n_th1, n_fa] at *); omega))] at z
        exact z
      · refine r_aload_n (pc := 29) dX11_notShut_29 rfl (by first | rfl | exact isRefV_rf _) ?_
        refine rm_getf (pc := 30) dX11_notShut_30 fX11_11 (by assumption) rfl ?_
        refine r_iload_n (pc := 33) dX11_notShut_33 rfl ?_
        refine rj_iconst (pc := 34) dX11_notShut_34 ?_
        refine r_callS2 (pc := 35) dX11_notShut_35 qX11_ofScope kX11_42 sX11_ofScope (Nat.le_of_ble_eq_true rfl) (m_ofScope (d + 1)) (fun v_35 h_35 q_35 => ?_)
        obtain ⟨rfl, rfl⟩ := q_35
        refine rj_iald (pc := 38) dX11_notShut_38 (by first | exact isM.g0 (by assumption) | exact isM.g3 (by assumption) | exact isM.g4 (by assumption) | exact isM.g8 (by assumption) | exact isM.g7 (by assumption) | exact isM.g6 (by assumption) | exact isM.g5 (by assumption) | exact isM.g1 (by assumption) | exact isM.g2 (by assumption)) (by first | assumption | exact b01_r | exact bz_r | omega | (constructor <;> omega) | exact hM _ | exact hPo _ | exact hTa _ | exact hRo _) (by first | assumption | exact b01_r | exact bz_r | omega | (constructor <;> omega) | exact hM _ | exact hPo _ | exact hTa _ | exact hRo _) (by first | assumption | exact b01_r | exact bz_r | omega | (constructor <;> omega) | exact hM _ | exact hPo _ | exact hTa _ | exact hRo _) rfl ?_
        refine rj_iconst (pc := 39) dX11_notShut_39 ?_
        refine rj_icmp_eq (pc := 40) (tgt := 47) dX11_notShut_40 (by decide) (by first | assumption | exact b01_r | exact bz_r | omega | (constructor <;> omega) | exact hM _ | exact hPo _ | exact hTa _ | exact hRo _) (by first | assumption | exact b01_r | exact bz_r | omega | (constructor <;> omega) | exact hM _ | exact hPo _ | exact hTa _ | exact hRo _) (fun c_40 => ?_) (fun c_40 => ?_)
        · refine rj_iconst (pc := 47) dX11_notShut_47 ?_
          refine rj_iadd (pc := 48) dX11_notShut_48 ?_
          refine r_istore_n (pc := 49) dX11_notShut_49 (Nat.le_of_ble_eq_true rfl) ?_
          dsimp only [lsSt, List.set, mLs, mEnt]
          refine rj_iinc (pc := 50) dX11_notShut_50 (Nat.le_of_ble_eq_true rfl) rfl ?_
          dsimp only [lsSt, List.set, mLs, mEnt]
          refine r_goto (pc := 53) (tgt := 4) dX11_notShut_53 (by decide) ?_
          have z := ih (t + 1) (by omega)
          rw [← cnt_f (by first | exact decide_eq_true (by (try simp only [n_open, n_held, n_ready, n_sc0, n_sc1, n_sc3, n_th1, n_fa] at *); omega) | exact decide_eq_false (by (try simp only [n_open, n_held, n_ready, n_sc0, n_sc1, n_sc3, n_th1, n_fa] at *); omega))] at z
          exact z
        · refine rj_iconst (pc := 43) dX11_notShut_43 ?_
          refine r_goto (pc := 44) (tgt := 48) dX11_notShut_44 (by decide) ?_
          refine rj_iadd (pc := 48) dX11_notShut_48 ?_
          refine r_istore_n (pc := 49) dX11_notShut_49 (Nat.le_of_ble_eq_true rfl) ?_
          dsimp only [lsSt, List.set, mLs, mEnt]
          refine rj_iinc (pc := 50) dX11_notShut_50 (Nat.le_of_ble_eq_true rfl) rfl ?_
          dsimp only [lsSt, List.set, mLs, mEnt]
          refine r_goto (pc := 53) (tgt := 4) dX11_notShut_53 (by decide) ?_
          have z := ih (t + 1) (by omega)
          rw [← cnt_t (by first | exact decide_eq_true (by (try simp only [n_open, n_held, n_ready, n_sc0, n_sc1, n_sc3, n_th1, n_fa] at *); omega) | exact decide_eq_false (by (try simp only [n_open, n_held, n_ready, n_sc0, n_sc1, n_sc3, n_th1, n_fa] at *); omega))] at z
          exact z
set_option maxHeartbeats 4000000 in
set_option maxRecDepth 100000 in
theorem m_notShut {G : mG} {l : Launch} (d : Nat) {h : mH} {x s : Nat} {f4 f6 f8 f9 f10 f11 f12 f13 f14 f16 f18 : Int} {m kp was pool tape pln pap rwd rw : Nat → Int}(hB : isM h x (mFs x f4 f6 f8 f9 f10 f11 f12 f13 f14 f16 f18 s) m kp was pool tape pln pap rwd rw) (hM : ∀ q, InR (m q)) {N : Nat} (hN : m 0 = (N : Int)) (hcap : N ≤ 60) {a : Int} (ha : InR a) : RUNM G l (d + 2) mX11_notShut [.ref x, .int (J a)] h (fun v h' => v = some (.int (J (cnt (shutB m a) N))) ∧ h' = h) := by
  refine RUNM.of (by decide +kernel) (Nat.le_of_ble_eq_true rfl) ?_
  refine rj_iconst (pc := 0) dX11_notShut_0 ?_
  refine r_istore_n (pc := 1) dX11_notShut_1 (Nat.le_of_ble_eq_true rfl) ?_
  dsimp only [lsSt, List.set, mLs, mEnt]
  refine rj_iconst (pc := 2) dX11_notShut_2 ?_
  refine r_istore_n (pc := 3) dX11_notShut_3 (Nat.le_of_ble_eq_true rfl) ?_
  dsimp only [lsSt, List.set, mLs, mEnt]
  exact L_notShut d hB hM hN hcap ha N 0 (by omega)
set_option maxHeartbeats 4000000 in
set_option maxRecDepth 100000 in
theorem L_gatheredBy {G : mG} {l : Launch} (d : Nat) {h : mH} {x s : Nat} {f4 f6 f8 f9 f10 f11 f12 f13 f14 f16 f18 : Int} {m kp was pool tape pln pap rwd rw : Nat → Int}(hB : isM h x (mFs x f4 f6 f8 f9 f10 f11 f12 f13 f14 f16 f18 s) m kp was pool tape pln pap rwd rw) (hM : ∀ q, InR (m q)) {N : Nat} (hN : m 4 = (N : Int)) (hcap : N ≤ 120) {a : Int} (ha : InR a) : ∀ k t : Nat, t + k = N → RUN G l (d + 2) mX11_gatheredBy 4 [some (.ref x), some (.int (J a)), some (.int (J (cnt (faultB m a) t))), some (.int (J ((t : Int))))] [] h (fun v h' => v = some (.int (J (cnt (faultB m a) N))) ∧ h' = h) := by
  dsimp only [mFs] at hB
  have rN := hM 4
  intro k
  induction k with
  | zero =>
    intro t ht
    refine r_iload_n (pc := 4) dX11_gatheredBy_4 rfl ?_
    refine r_aload_n (pc := 5) dX11_gatheredBy_5 rfl (by first | rfl | exact isRefV_rf _) ?_
    refine rm_getf (pc := 6) dX11_gatheredBy_6 fX11_11 (by assumption) rfl ?_
    refine rj_iconst (pc := 9) dX11_gatheredBy_9 ?_
    refine rj_iald (pc := 10) (j := 4) dX11_gatheredBy_10 (by first | exact isM.g0 (by assumption) | exact isM.g3 (by assumption) | exact isM.g4 (by assumption) | exact isM.g8 (by assumption) | exact isM.g7 (by assumption) | exact isM.g6 (by assumption) | exact isM.g5 (by assumption) | exact isM.g1 (by assumption) | exact isM.g2 (by assumption)) (by first | assumption | exact b01_r | exact bz_r | omega | (constructor <;> omega) | exact hM _ | exact hPo _ | exact hTa _ | exact hRo _) (by first | assumption | exact b01_r | exact bz_r | omega | (constructor <;> omega) | exact hM _ | exact hPo _ | exact hTa _ | exact hRo _) (by first | assumption | exact b01_r | exact bz_r | omega | (constructor <;> omega) | exact hM _ | exact hPo _ | exact hTa _ | exact hRo _) rfl ?_
    refine rj_icmp_ge (pc := 11) (tgt := 44) dX11_gatheredBy_11 (by decide) (by first | assumption | exact b01_r | exact bz_r | omega | (constructor <;> omega) | exact hM _ | exact hPo _ | exact hTa _ | exact hRo _) (by first | assumption | exact b01_r | exact bz_r | omega | (constructor <;> omega) | exact hM _ | exact hPo _ | exact hTa _ | exact hRo _) (fun c_11 => ?_) (fun c_11 => ?_)
    · refine r_iload_n (pc := 44) dX11_gatheredBy_44 rfl ?_
      refine r_ireturn (pc := 45) .int dX11_gatheredBy_45 rfl (by first | rfl | assumption) ?_
      have e : t = N := by omega
      subst e
      exact ⟨rfl, rfl⟩
    · refine r_iload_n (pc := 14) dX11_gatheredBy_14 rfl ?_
      refine r_aload_n (pc := 15) dX11_gatheredBy_15 rfl (by first | rfl | exact isRefV_rf _) ?_
      refine rm_getf (pc := 16) dX11_gatheredBy_16 fX11_11 (by assumption) rfl ?_
      refine rj_sipush (pc := 19) dX11_gatheredBy_19 (by decide +kernel) ?_
      refine rj_iconst (pc := 22) dX11_gatheredBy_22 ?_
      refine r_iload_n (pc := 23) dX11_gatheredBy_23 rfl ?_
      refine rj_imul (pc := 24) dX11_gatheredBy_24 ?_
      refine rj_iadd (pc := 25) dX11_gatheredBy_25 ?_
      refine rj_iald (pc := 26) dX11_gatheredBy_26 (by first | exact isM.g0 (by assumption) | exact isM.g3 (by assumption) | exact isM.g4 (by assumption) | exact isM.g8 (by assumption) | exact isM.g7 (by assumption) | exact isM.g6 (by assumption) | exact isM.g5 (by assumption) | exact isM.g1 (by assumption) | exact isM.g2 (by assumption)) (by first | assumption | exact b01_r | exact bz_r | omega | (constructor <;> omega) | exact hM _ | exact hPo _ | exact hTa _ | exact hRo _) (by first | assumption | exact b01_r | exact bz_r | omega | (constructor <;> omega) | exact hM _ | exact hPo _ | exact hTa _ | exact hRo _) (by first | assumption | exact b01_r | exact bz_r | omega | (constructor <;> omega) | exact hM _ | exact hPo _ | exact hTa _ | exact hRo _) rfl ?_
      refine r_iload_n (pc := 27) dX11_gatheredBy_27 rfl ?_
      refine rj_icmp_ne (pc := 28) (tgt := 35) dX11_gatheredBy_28 (by decide) (by first | assumption | exact b01_r | exact bz_r | omega | (constructor <;> omega) | exact hM _ | exact hPo _ | exact hTa _ | exact hRo _) (by first | assumption | exact b01_r | exact bz_r | omega | (constructor <;> omega) | exact hM _ | exact hPo _ | exact hTa _ | exact hRo _) (fun c_28 => ?_) (fun c_28 => ?_)
      · refine rj_iconst (pc := 35) dX11_gatheredBy_35 ?_
        refine rj_iadd (pc := 36) dX11_gatheredBy_36 ?_
        refine r_istore_n (pc := 37) dX11_gatheredBy_37 (Nat.le_of_ble_eq_true rfl) ?_
        dsimp only [lsSt, List.set, mLs, mEnt]
        refine rj_iinc (pc := 38) dX11_gatheredBy_38 (Nat.le_of_ble_eq_true rfl) rfl ?_
        dsimp only [lsSt, List.set, mLs, mEnt]
        refine r_goto (pc := 41) (tgt := 4) dX11_gatheredBy_41 (by decide) ?_
        exfalso; omega
      · refine rj_iconst (pc := 31) dX11_gatheredBy_31 ?_
        refine r_goto (pc := 32) (tgt := 36) dX11_gatheredBy_32 (by decide) ?_
        refine rj_iadd (pc := 36) dX11_gatheredBy_36 ?_
        refine r_istore_n (pc := 37) dX11_gatheredBy_37 (Nat.le_of_ble_eq_true rfl) ?_
        dsimp only [lsSt, List.set, mLs, mEnt]
        refine rj_iinc (pc := 38) dX11_gatheredBy_38 (Nat.le_of_ble_eq_true rfl) rfl ?_
        dsimp only [lsSt, List.set, mLs, mEnt]
        refine r_goto (pc := 41) (tgt := 4) dX11_gatheredBy_41 (by decide) ?_
        exfalso; omega
  | succ k ih =>
    intro t ht
    refine r_iload_n (pc := 4) dX11_gatheredBy_4 rfl ?_
    refine r_aload_n (pc := 5) dX11_gatheredBy_5 rfl (by first | rfl | exact isRefV_rf _) ?_
    refine rm_getf (pc := 6) dX11_gatheredBy_6 fX11_11 (by assumption) rfl ?_
    refine rj_iconst (pc := 9) dX11_gatheredBy_9 ?_
    refine rj_iald (pc := 10) (j := 4) dX11_gatheredBy_10 (by first | exact isM.g0 (by assumption) | exact isM.g3 (by assumption) | exact isM.g4 (by assumption) | exact isM.g8 (by assumption) | exact isM.g7 (by assumption) | exact isM.g6 (by assumption) | exact isM.g5 (by assumption) | exact isM.g1 (by assumption) | exact isM.g2 (by assumption)) (by first | assumption | exact b01_r | exact bz_r | omega | (constructor <;> omega) | exact hM _ | exact hPo _ | exact hTa _ | exact hRo _) (by first | assumption | exact b01_r | exact bz_r | omega | (constructor <;> omega) | exact hM _ | exact hPo _ | exact hTa _ | exact hRo _) (by first | assumption | exact b01_r | exact bz_r | omega | (constructor <;> omega) | exact hM _ | exact hPo _ | exact hTa _ | exact hRo _) rfl ?_
    refine rj_icmp_ge (pc := 11) (tgt := 44) dX11_gatheredBy_11 (by decide) (by first | assumption | exact b01_r | exact bz_r | omega | (constructor <;> omega) | exact hM _ | exact hPo _ | exact hTa _ | exact hRo _) (by first | assumption | exact b01_r | exact bz_r | omega | (constructor <;> omega) | exact hM _ | exact hPo _ | exact hTa _ | exact hRo _) (fun c_11 => ?_) (fun c_11 => ?_)
    · refine r_iload_n (pc := 44) dX11_gatheredBy_44 rfl ?_
      refine r_ireturn (pc := 45) .int dX11_gatheredBy_45 rfl (by first | rfl | assumption) ?_
      exfalso; omega
    · refine r_iload_n (pc := 14) dX11_gatheredBy_14 rfl ?_
      refine r_aload_n (pc := 15) dX11_gatheredBy_15 rfl (by first | rfl | exact isRefV_rf _) ?_
      refine rm_getf (pc := 16) dX11_gatheredBy_16 fX11_11 (by assumption) rfl ?_
      refine rj_sipush (pc := 19) dX11_gatheredBy_19 (by decide +kernel) ?_
      refine rj_iconst (pc := 22) dX11_gatheredBy_22 ?_
      refine r_iload_n (pc := 23) dX11_gatheredBy_23 rfl ?_
      refine rj_imul (pc := 24) dX11_gatheredBy_24 ?_
      refine rj_iadd (pc := 25) dX11_gatheredBy_25 ?_
      refine rj_iald (pc := 26) dX11_gatheredBy_26 (by first | exact isM.g0 (by assumption) | exact isM.g3 (by assumption) | exact isM.g4 (by assumption) | exact isM.g8 (by assumption) | exact isM.g7 (by assumption) | exact isM.g6 (by assumption) | exact isM.g5 (by assumption) | exact isM.g1 (by assumption) | exact isM.g2 (by assumption)) (by first | assumption | exact b01_r | exact bz_r | omega | (constructor <;> omega) | exact hM _ | exact hPo _ | exact hTa _ | exact hRo _) (by first | assumption | exact b01_r | exact bz_r | omega | (constructor <;> omega) | exact hM _ | exact hPo _ | exact hTa _ | exact hRo _) (by first | assumption | exact b01_r | exact bz_r | omega | (constructor <;> omega) | exact hM _ | exact hPo _ | exact hTa _ | exact hRo _) rfl ?_
      refine r_iload_n (pc := 27) dX11_gatheredBy_27 rfl ?_
      refine rj_icmp_ne (pc := 28) (tgt := 35) dX11_gatheredBy_28 (by decide) (by first | assumption | exact b01_r | exact bz_r | omega | (constructor <;> omega) | exact hM _ | exact hPo _ | exact hTa _ | exact hRo _) (by first | assumption | exact b01_r | exact bz_r | omega | (constructor <;> omega) | exact hM _ | exact hPo _ | exact hTa _ | exact hRo _) (fun c_28 => ?_) (fun c_28 => ?_)
      · refine rj_iconst (pc := 35) dX11_gatheredBy_35 ?_
        refine rj_iadd (pc := 36) dX11_gatheredBy_36 ?_
        refine r_istore_n (pc := 37) dX11_gatheredBy_37 (Nat.le_of_ble_eq_true rfl) ?_
        dsimp only [lsSt, List.set, mLs, mEnt]
        refine rj_iinc (pc := 38) dX11_gatheredBy_38 (Nat.le_of_ble_eq_true rfl) rfl ?_
        dsimp only [lsSt, List.set, mLs, mEnt]
        refine r_goto (pc := 41) (tgt := 4) dX11_gatheredBy_41 (by decide) ?_
        have z := ih (t + 1) (by omega)
        rw [← cnt_f (by first | exact decide_eq_true (by (try simp only [n_open, n_held, n_ready, n_sc0, n_sc1, n_sc3, n_th1, n_fa] at *); omega) | exact decide_eq_false (by (try simp only [n_open, n_held, n_ready, n_sc0, n_sc1, n_sc3, n_th1, n_fa] at *); omega))] at z
        exact z
      · refine rj_iconst (pc := 31) dX11_gatheredBy_31 ?_
        refine r_goto (pc := 32) (tgt := 36) dX11_gatheredBy_32 (by decide) ?_
        refine rj_iadd (pc := 36) dX11_gatheredBy_36 ?_
        refine r_istore_n (pc := 37) dX11_gatheredBy_37 (Nat.le_of_ble_eq_true rfl) ?_
        dsimp only [lsSt, List.set, mLs, mEnt]
        refine rj_iinc (pc := 38) dX11_gatheredBy_38 (Nat.le_of_ble_eq_true rfl) rfl ?_
        dsimp only [lsSt, List.set, mLs, mEnt]
        refine r_goto (pc := 41) (tgt := 4) dX11_gatheredBy_41 (by decide) ?_
        have z := ih (t + 1) (by omega)
        rw [← cnt_t (by first | exact decide_eq_true (by (try simp only [n_open, n_held, n_ready, n_sc0, n_sc1, n_sc3, n_th1, n_fa] at *); omega) | exact decide_eq_false (by (try simp only [n_open, n_held, n_ready, n_sc0, n_sc1, n_sc3, n_th1, n_fa] at *); omega))] at z
        exact z
set_option maxHeartbeats 4000000 in
set_option maxRecDepth 100000 in
theorem m_gatheredBy {G : mG} {l : Launch} (d : Nat) {h : mH} {x s : Nat} {f4 f6 f8 f9 f10 f11 f12 f13 f14 f16 f18 : Int} {m kp was pool tape pln pap rwd rw : Nat → Int}(hB : isM h x (mFs x f4 f6 f8 f9 f10 f11 f12 f13 f14 f16 f18 s) m kp was pool tape pln pap rwd rw) (hM : ∀ q, InR (m q)) {N : Nat} (hN : m 4 = (N : Int)) (hcap : N ≤ 120) {a : Int} (ha : InR a) : RUNM G l (d + 2) mX11_gatheredBy [.ref x, .int (J a)] h (fun v h' => v = some (.int (J (cnt (faultB m a) N))) ∧ h' = h) := by
  refine RUNM.of (by decide +kernel) (Nat.le_of_ble_eq_true rfl) ?_
  refine rj_iconst (pc := 0) dX11_gatheredBy_0 ?_
  refine r_istore_n (pc := 1) dX11_gatheredBy_1 (Nat.le_of_ble_eq_true rfl) ?_
  dsimp only [lsSt, List.set, mLs, mEnt]
  refine rj_iconst (pc := 2) dX11_gatheredBy_2 ?_
  refine r_istore_n (pc := 3) dX11_gatheredBy_3 (Nat.le_of_ble_eq_true rfl) ?_
  dsimp only [lsSt, List.set, mLs, mEnt]
  exact L_gatheredBy d hB hM hN hcap ha N 0 (by omega)
def entSC (m : Nat → Int) (a : Int) (q : Nat) : Bool := decide (1 ≤ q) && entSB m a q
theorem cnt_1 (m : Nat → Int) (a : Int) : cnt (entSC m a) 1 = 0 := by simp [cnt, entSC]
def entsN (m : Nat → Int) (a : Int) (N C : Nat) : Int := cnt (entTB m a) N + cnt (entSC m a) C
set_option maxHeartbeats 4000000 in
set_option maxRecDepth 100000 in
theorem L_entS {G : mG} {l : Launch} (d : Nat) {h : mH} {x s : Nat} {f4 f6 f8 f9 f10 f11 f12 f13 f14 f16 f18 : Int} {m kp was pool tape pln pap rwd rw : Nat → Int}(hB : isM h x (mFs x f4 f6 f8 f9 f10 f11 f12 f13 f14 f16 f18 s) m kp was pool tape pln pap rwd rw) (hM : ∀ q, InR (m q)) {N C : Nat} (hN : m 1 = (N : Int)) (hcap : N ≤ 90) (hC : m 0 = (C : Int)) (hC1 : 1 ≤ C) (hC2 : C ≤ 60) {a : Int} (ha : InR a) : ∀ k t : Nat, t + k = C → 1 ≤ t → RUN G l (d + 2) mX11_entries 53 [some (.ref x), some (.int (J a)), some (.int (J (cnt (entTB m a) N + cnt (entSC m a) t))), some (.int (J (t : Int)))] [] h (fun v h' => v = some (.int (J (entsN m a N C))) ∧ h' = h) := by
  dsimp only [mFs] at hB
  have rN := hM 1
  have r0 := hM 0
  intro k
  induction k with
  | zero =>
    intro t ht ht1
    refine r_iload_n (pc := 53) dX11_entries_53 rfl ?_
    refine r_aload_n (pc := 54) dX11_entries_54 rfl (by first | rfl | exact isRefV_rf _) ?_
    refine rm_getf (pc := 55) dX11_entries_55 fX11_11 (by assumption) rfl ?_
    refine rj_iconst (pc := 58) dX11_entries_58 ?_
    refine rj_iald (pc := 59) (j := 0) dX11_entries_59 (by first | exact isM.g0 (by assumption) | exact isM.g3 (by assumption) | exact isM.g4 (by assumption) | exact isM.g8 (by assumption) | exact isM.g7 (by assumption) | exact isM.g6 (by assumption) | exact isM.g5 (by assumption) | exact isM.g1 (by assumption) | exact isM.g2 (by assumption)) (by first | assumption | exact b01_r | exact bz_r | omega | (constructor <;> omega) | exact hM _ | exact hPo _ | exact hTa _ | exact hRo _) (by first | assumption | exact b01_r | exact bz_r | omega | (constructor <;> omega) | exact hM _ | exact hPo _ | exact hTa _ | exact hRo _) (by first | assumption | exact b01_r | exact bz_r | omega | (constructor <;> omega) | exact hM _ | exact hPo _ | exact hTa _ | exact hRo _) rfl ?_
    refine rj_icmp_ge (pc := 60) (tgt := 105) dX11_entries_60 (by decide) (by first | assumption | exact b01_r | exact bz_r | omega | (constructor <;> omega) | exact hM _ | exact hPo _ | exact hTa _ | exact hRo _) (by first | assumption | exact b01_r | exact bz_r | omega | (constructor <;> omega) | exact hM _ | exact hPo _ | exact hTa _ | exact hRo _) (fun c_60 => ?_) (fun c_60 => ?_)
    · refine r_iload_n (pc := 105) dX11_entries_105 rfl ?_
      refine r_ireturn (pc := 106) .int dX11_entries_106 rfl (by first | rfl | assumption) ?_
      have e : t = C := by omega
      subst e
      exact ⟨rfl, rfl⟩
    · refine r_iload_n (pc := 63) dX11_entries_63 rfl ?_
      refine r_aload_n (pc := 64) dX11_entries_64 rfl (by first | rfl | exact isRefV_rf _) ?_
      refine rm_getf (pc := 65) dX11_entries_65 fX11_11 (by assumption) rfl ?_
      refine r_iload_n (pc := 68) dX11_entries_68 rfl ?_
      refine rj_iconst (pc := 69) dX11_entries_69 ?_
      refine r_callS2 (pc := 70) dX11_entries_70 qX11_ofScope kX11_42 sX11_ofScope (Nat.le_of_ble_eq_true rfl) (m_ofScope (d + 1)) (fun v_70 h_70 q_70 => ?_)
      obtain ⟨rfl, rfl⟩ := q_70
      refine rj_iald (pc := 73) dX11_entries_73 (by first | exact isM.g0 (by assumption) | exact isM.g3 (by assumption) | exact isM.g4 (by assumption) | exact isM.g8 (by assumption) | exact isM.g7 (by assumption) | exact isM.g6 (by assumption) | exact isM.g5 (by assumption) | exact isM.g1 (by assumption) | exact isM.g2 (by assumption)) (by first | assumption | exact b01_r | exact bz_r | omega | (constructor <;> omega) | exact hM _ | exact hPo _ | exact hTa _ | exact hRo _) (by first | assumption | exact b01_r | exact bz_r | omega | (constructor <;> omega) | exact hM _ | exact hPo _ | exact hTa _ | exact hRo _) (by first | assumption | exact b01_r | exact bz_r | omega | (constructor <;> omega) | exact hM _ | exact hPo _ | exact hTa _ | exact hRo _) rfl ?_
      refine rj_iconst (pc := 74) dX11_entries_74 ?_
      refine rj_icmp_eq (pc := 75) (tgt := 96) dX11_entries_75 (by decide) (by first | assumption | exact b01_r | exact bz_r | omega | (constructor <;> omega) | exact hM _ | exact hPo _ | exact hTa _ | exact hRo _) (by first | assumption | exact b01_r | exact bz_r | omega | (constructor <;> omega) | exact hM _ | exact hPo _ | exact hTa _ | exact hRo _) (fun c_75 => ?_) (fun c_75 => ?_)
      · refine rj_iconst (pc := 96) dX11_entries_96 ?_
        refine rj_iadd (pc := 97) dX11_entries_97 ?_
        refine r_istore_n (pc := 98) dX11_entries_98 (Nat.le_of_ble_eq_true rfl) ?_
        dsimp only [lsSt, List.set, mLs, mEnt]
        refine rj_iinc (pc := 99) dX11_entries_99 (Nat.le_of_ble_eq_true rfl) rfl ?_
        dsimp only [lsSt, List.set, mLs, mEnt]
        refine r_goto (pc := 102) (tgt := 53) dX11_entries_102 (by decide) ?_
        exfalso; omega
      · refine r_aload_n (pc := 78) dX11_entries_78 rfl (by first | rfl | exact isRefV_rf _) ?_
        refine rm_getf (pc := 79) dX11_entries_79 fX11_11 (by assumption) rfl ?_
        refine r_iload_n (pc := 82) dX11_entries_82 rfl ?_
        refine rj_iconst (pc := 83) dX11_entries_83 ?_
        refine r_callS2 (pc := 84) dX11_entries_84 qX11_ofScope kX11_42 sX11_ofScope (Nat.le_of_ble_eq_true rfl) (m_ofScope (d + 1)) (fun v_84 h_84 q_84 => ?_)
        obtain ⟨rfl, rfl⟩ := q_84
        refine rj_iald (pc := 87) dX11_entries_87 (by first | exact isM.g0 (by assumption) | exact isM.g3 (by assumption) | exact isM.g4 (by assumption) | exact isM.g8 (by assumption) | exact isM.g7 (by assumption) | exact isM.g6 (by assumption) | exact isM.g5 (by assumption) | exact isM.g1 (by assumption) | exact isM.g2 (by assumption)) (by first | assumption | exact b01_r | exact bz_r | omega | (constructor <;> omega) | exact hM _ | exact hPo _ | exact hTa _ | exact hRo _) (by first | assumption | exact b01_r | exact bz_r | omega | (constructor <;> omega) | exact hM _ | exact hPo _ | exact hTa _ | exact hRo _) (by first | assumption | exact b01_r | exact bz_r | omega | (constructor <;> omega) | exact hM _ | exact hPo _ | exact hTa _ | exact hRo _) rfl ?_
        refine r_iload_n (pc := 88) dX11_entries_88 rfl ?_
        refine rj_icmp_ne (pc := 89) (tgt := 96) dX11_entries_89 (by decide) (by first | assumption | exact b01_r | exact bz_r | omega | (constructor <;> omega) | exact hM _ | exact hPo _ | exact hTa _ | exact hRo _) (by first | assumption | exact b01_r | exact bz_r | omega | (constructor <;> omega) | exact hM _ | exact hPo _ | exact hTa _ | exact hRo _) (fun c_89 => ?_) (fun c_89 => ?_)
        · refine rj_iconst (pc := 96) dX11_entries_96 ?_
          refine rj_iadd (pc := 97) dX11_entries_97 ?_
          refine r_istore_n (pc := 98) dX11_entries_98 (Nat.le_of_ble_eq_true rfl) ?_
          dsimp only [lsSt, List.set, mLs, mEnt]
          refine rj_iinc (pc := 99) dX11_entries_99 (Nat.le_of_ble_eq_true rfl) rfl ?_
          dsimp only [lsSt, List.set, mLs, mEnt]
          refine r_goto (pc := 102) (tgt := 53) dX11_entries_102 (by decide) ?_
          exfalso; omega
        · refine rj_iconst (pc := 92) dX11_entries_92 ?_
          refine r_goto (pc := 93) (tgt := 97) dX11_entries_93 (by decide) ?_
          refine rj_iadd (pc := 97) dX11_entries_97 ?_
          refine r_istore_n (pc := 98) dX11_entries_98 (Nat.le_of_ble_eq_true rfl) ?_
          dsimp only [lsSt, List.set, mLs, mEnt]
          refine rj_iinc (pc := 99) dX11_entries_99 (Nat.le_of_ble_eq_true rfl) rfl ?_
          dsimp only [lsSt, List.set, mLs, mEnt]
          refine r_goto (pc := 102) (tgt := 53) dX11_entries_102 (by decide) ?_
          exfalso; omega
  | succ k ih =>
    intro t ht ht1
    refine r_iload_n (pc := 53) dX11_entries_53 rfl ?_
    refine r_aload_n (pc := 54) dX11_entries_54 rfl (by first | rfl | exact isRefV_rf _) ?_
    refine rm_getf (pc := 55) dX11_entries_55 fX11_11 (by assumption) rfl ?_
    refine rj_iconst (pc := 58) dX11_entries_58 ?_
    refine rj_iald (pc := 59) (j := 0) dX11_entries_59 (by first | exact isM.g0 (by assumption) | exact isM.g3 (by assumption) | exact isM.g4 (by assumption) | exact isM.g8 (by assumption) | exact isM.g7 (by assumption) | exact isM.g6 (by assumption) | exact isM.g5 (by assumption) | exact isM.g1 (by assumption) | exact isM.g2 (by assumption)) (by first | assumption | exact b01_r | exact bz_r | omega | (constructor <;> omega) | exact hM _ | exact hPo _ | exact hTa _ | exact hRo _) (by first | assumption | exact b01_r | exact bz_r | omega | (constructor <;> omega) | exact hM _ | exact hPo _ | exact hTa _ | exact hRo _) (by first | assumption | exact b01_r | exact bz_r | omega | (constructor <;> omega) | exact hM _ | exact hPo _ | exact hTa _ | exact hRo _) rfl ?_
    refine rj_icmp_ge (pc := 60) (tgt := 105) dX11_entries_60 (by decide) (by first | assumption | exact b01_r | exact bz_r | omega | (constructor <;> omega) | exact hM _ | exact hPo _ | exact hTa _ | exact hRo _) (by first | assumption | exact b01_r | exact bz_r | omega | (constructor <;> omega) | exact hM _ | exact hPo _ | exact hTa _ | exact hRo _) (fun c_60 => ?_) (fun c_60 => ?_)
    · refine r_iload_n (pc := 105) dX11_entries_105 rfl ?_
      refine r_ireturn (pc := 106) .int dX11_entries_106 rfl (by first | rfl | assumption) ?_
      exfalso; omega
    · refine r_iload_n (pc := 63) dX11_entries_63 rfl ?_
      refine r_aload_n (pc := 64) dX11_entries_64 rfl (by first | rfl | exact isRefV_rf _) ?_
      refine rm_getf (pc := 65) dX11_entries_65 fX11_11 (by assumption) rfl ?_
      refine r_iload_n (pc := 68) dX11_entries_68 rfl ?_
      refine rj_iconst (pc := 69) dX11_entries_69 ?_
      refine r_callS2 (pc := 70) dX11_entries_70 qX11_ofScope kX11_42 sX11_ofScope (Nat.le_of_ble_eq_true rfl) (m_ofScope (d + 1)) (fun v_70 h_70 q_70 => ?_)
      obtain ⟨rfl, rfl⟩ := q_70
      refine rj_iald (pc := 73) dX11_entries_73 (by first | exact isM.g0 (by assumption) | exact isM.g3 (by assumption) | exact isM.g4 (by assumption) | exact isM.g8 (by assumption) | exact isM.g7 (by assumption) | exact isM.g6 (by assumption) | exact isM.g5 (by assumption) | exact isM.g1 (by assumption) | exact isM.g2 (by assumption)) (by first | assumption | exact b01_r | exact bz_r | omega | (constructor <;> omega) | exact hM _ | exact hPo _ | exact hTa _ | exact hRo _) (by first | assumption | exact b01_r | exact bz_r | omega | (constructor <;> omega) | exact hM _ | exact hPo _ | exact hTa _ | exact hRo _) (by first | assumption | exact b01_r | exact bz_r | omega | (constructor <;> omega) | exact hM _ | exact hPo _ | exact hTa _ | exact hRo _) rfl ?_
      refine rj_iconst (pc := 74) dX11_entries_74 ?_
      refine rj_icmp_eq (pc := 75) (tgt := 96) dX11_entries_75 (by decide) (by first | assumption | exact b01_r | exact bz_r | omega | (constructor <;> omega) | exact hM _ | exact hPo _ | exact hTa _ | exact hRo _) (by first | assumption | exact b01_r | exact bz_r | omega | (constructor <;> omega) | exact hM _ | exact hPo _ | exact hTa _ | exact hRo _) (fun c_75 => ?_) (fun c_75 => ?_)
      · refine rj_iconst (pc := 96) dX11_entries_96 ?_
        refine rj_iadd (pc := 97) dX11_entries_97 ?_
        refine r_istore_n (pc := 98) dX11_entries_98 (Nat.le_of_ble_eq_true rfl) ?_
        dsimp only [lsSt, List.set, mLs, mEnt]
        refine rj_iinc (pc := 99) dX11_entries_99 (Nat.le_of_ble_eq_true rfl) rfl ?_
        dsimp only [lsSt, List.set, mLs, mEnt]
        refine r_goto (pc := 102) (tgt := 53) dX11_entries_102 (by decide) ?_
        have z := ih (t + 1) (by omega) (by omega)
        rw [← cnt_f (by simp only [entSC, entSB, Bool.and_eq_true, decide_eq_true_eq, Bool.and_eq_false_iff, decide_eq_false_iff_not]; (try simp only [n_open, n_held, n_ready, n_sc0, n_sc1, n_sc3, n_th1, n_fa] at *); omega), ← Int.add_assoc] at z
        exact z
      · refine r_aload_n (pc := 78) dX11_entries_78 rfl (by first | rfl | exact isRefV_rf _) ?_
        refine rm_getf (pc := 79) dX11_entries_79 fX11_11 (by assumption) rfl ?_
        refine r_iload_n (pc := 82) dX11_entries_82 rfl ?_
        refine rj_iconst (pc := 83) dX11_entries_83 ?_
        refine r_callS2 (pc := 84) dX11_entries_84 qX11_ofScope kX11_42 sX11_ofScope (Nat.le_of_ble_eq_true rfl) (m_ofScope (d + 1)) (fun v_84 h_84 q_84 => ?_)
        obtain ⟨rfl, rfl⟩ := q_84
        refine rj_iald (pc := 87) dX11_entries_87 (by first | exact isM.g0 (by assumption) | exact isM.g3 (by assumption) | exact isM.g4 (by assumption) | exact isM.g8 (by assumption) | exact isM.g7 (by assumption) | exact isM.g6 (by assumption) | exact isM.g5 (by assumption) | exact isM.g1 (by assumption) | exact isM.g2 (by assumption)) (by first | assumption | exact b01_r | exact bz_r | omega | (constructor <;> omega) | exact hM _ | exact hPo _ | exact hTa _ | exact hRo _) (by first | assumption | exact b01_r | exact bz_r | omega | (constructor <;> omega) | exact hM _ | exact hPo _ | exact hTa _ | exact hRo _) (by first | assumption | exact b01_r | exact bz_r | omega | (constructor <;> omega) | exact hM _ | exact hPo _ | exact hTa _ | exact hRo _) rfl ?_
        refine r_iload_n (pc := 88) dX11_entries_88 rfl ?_
        refine rj_icmp_ne (pc := 89) (tgt := 96) dX11_entries_89 (by decide) (by first | assumption | exact b01_r | exact bz_r | omega | (constructor <;> omega) | exact hM _ | exact hPo _ | exact hTa _ | exact hRo _) (by first | assumption | exact b01_r | exact bz_r | omega | (constructor <;> omega) | exact hM _ | exact hPo _ | exact hTa _ | exact hRo _) (fun c_89 => ?_) (fun c_89 => ?_)
        · refine rj_iconst (pc := 96) dX11_entries_96 ?_
          refine rj_iadd (pc := 97) dX11_entries_97 ?_
          refine r_istore_n (pc := 98) dX11_entries_98 (Nat.le_of_ble_eq_true rfl) ?_
          dsimp only [lsSt, List.set, mLs, mEnt]
          refine rj_iinc (pc := 99) dX11_entries_99 (Nat.le_of_ble_eq_true rfl) rfl ?_
          dsimp only [lsSt, List.set, mLs, mEnt]
          refine r_goto (pc := 102) (tgt := 53) dX11_entries_102 (by decide) ?_
          have z := ih (t + 1) (by omega) (by omega)
          rw [← cnt_f (by simp only [entSC, entSB, Bool.and_eq_true, decide_eq_true_eq, Bool.and_eq_false_iff, decide_eq_false_iff_not]; (try simp only [n_open, n_held, n_ready, n_sc0, n_sc1, n_sc3, n_th1, n_fa] at *); omega), ← Int.add_assoc] at z
          exact z
        · refine rj_iconst (pc := 92) dX11_entries_92 ?_
          refine r_goto (pc := 93) (tgt := 97) dX11_entries_93 (by decide) ?_
          refine rj_iadd (pc := 97) dX11_entries_97 ?_
          refine r_istore_n (pc := 98) dX11_entries_98 (Nat.le_of_ble_eq_true rfl) ?_
          dsimp only [lsSt, List.set, mLs, mEnt]
          refine rj_iinc (pc := 99) dX11_entries_99 (Nat.le_of_ble_eq_true rfl) rfl ?_
          dsimp only [lsSt, List.set, mLs, mEnt]
          refine r_goto (pc := 102) (tgt := 53) dX11_entries_102 (by decide) ?_
          have z := ih (t + 1) (by omega) (by omega)
          rw [← cnt_t (by simp only [entSC, entSB, Bool.and_eq_true, decide_eq_true_eq, Bool.and_eq_false_iff, decide_eq_false_iff_not]; (try simp only [n_open, n_held, n_ready, n_sc0, n_sc1, n_sc3, n_th1, n_fa] at *); omega), ← Int.add_assoc] at z
          exact z
set_option maxHeartbeats 4000000 in
set_option maxRecDepth 100000 in
theorem L_entT {G : mG} {l : Launch} (d : Nat) {h : mH} {x s : Nat} {f4 f6 f8 f9 f10 f11 f12 f13 f14 f16 f18 : Int} {m kp was pool tape pln pap rwd rw : Nat → Int}(hB : isM h x (mFs x f4 f6 f8 f9 f10 f11 f12 f13 f14 f16 f18 s) m kp was pool tape pln pap rwd rw) (hM : ∀ q, InR (m q)) {N C : Nat} (hN : m 1 = (N : Int)) (hcap : N ≤ 90) (hC : m 0 = (C : Int)) (hC1 : 1 ≤ C) (hC2 : C ≤ 60) {a : Int} (ha : InR a) : ∀ k t : Nat, t + k = N → RUN G l (d + 2) mX11_entries 4 [some (.ref x), some (.int (J a)), some (.int (J (cnt (entTB m a) t))), some (.int (J (t : Int)))] [] h (fun v h' => v = some (.int (J (entsN m a N C))) ∧ h' = h) := by
  dsimp only [mFs] at hB
  have rN := hM 1
  have r0 := hM 0
  intro k
  induction k with
  | zero =>
    intro t ht
    refine r_iload_n (pc := 4) dX11_entries_4 rfl ?_
    refine r_aload_n (pc := 5) dX11_entries_5 rfl (by first | rfl | exact isRefV_rf _) ?_
    refine rm_getf (pc := 6) dX11_entries_6 fX11_11 (by assumption) rfl ?_
    refine rj_iconst (pc := 9) dX11_entries_9 ?_
    refine rj_iald (pc := 10) (j := 1) dX11_entries_10 (by first | exact isM.g0 (by assumption) | exact isM.g3 (by assumption) | exact isM.g4 (by assumption) | exact isM.g8 (by assumption) | exact isM.g7 (by assumption) | exact isM.g6 (by assumption) | exact isM.g5 (by assumption) | exact isM.g1 (by assumption) | exact isM.g2 (by assumption)) (by first | assumption | exact b01_r | exact bz_r | omega | (constructor <;> omega) | exact hM _ | exact hPo _ | exact hTa _ | exact hRo _) (by first | assumption | exact b01_r | exact bz_r | omega | (constructor <;> omega) | exact hM _ | exact hPo _ | exact hTa _ | exact hRo _) (by first | assumption | exact b01_r | exact bz_r | omega | (constructor <;> omega) | exact hM _ | exact hPo _ | exact hTa _ | exact hRo _) rfl ?_
    refine rj_icmp_ge (pc := 11) (tgt := 51) dX11_entries_11 (by decide) (by first | assumption | exact b01_r | exact bz_r | omega | (constructor <;> omega) | exact hM _ | exact hPo _ | exact hTa _ | exact hRo _) (by first | assumption | exact b01_r | exact bz_r | omega | (constructor <;> omega) | exact hM _ | exact hPo _ | exact hTa _ | exact hRo _) (fun c_11 => ?_) (fun c_11 => ?_)
    · refine rj_iconst (pc := 51) dX11_entries_51 ?_
      refine r_istore_n (pc := 52) dX11_entries_52 (Nat.le_of_ble_eq_true rfl) ?_
      dsimp only [lsSt, List.set, mLs, mEnt]
      have e : t = N := by omega
      subst e
      have z := L_entS (G := G) (l := l) d hB hM hN hcap hC hC1 hC2 ha (C - 1) 1 (by omega) (Nat.le_refl _)
      rw [cnt_1, Int.add_zero] at z
      exact z
    · refine r_iload_n (pc := 14) dX11_entries_14 rfl ?_
      refine r_aload_n (pc := 15) dX11_entries_15 rfl (by first | rfl | exact isRefV_rf _) ?_
      refine r_iload_n (pc := 16) dX11_entries_16 rfl ?_
      refine r_callV1 (pc := 17) dX11_entries_17 qX11_isHeld kX11_119 vX11_isHeld (by exact isM.gx (by assumption)) rfl rfl (Nat.le_of_ble_eq_true rfl) (m_isHeld d hB hM (by omega) (by omega)) (fun v_17 h_17 q_17 => ?_)
      obtain ⟨rfl, rfl⟩ := q_17
      refine rj_if_eq (pc := 20) (tgt := 42) dX11_entries_20 (by decide) (by first | assumption | exact b01_r | exact bz_r | omega | (constructor <;> omega) | exact hM _ | exact hPo _ | exact hTa _ | exact hRo _) (fun c_20 => ?_) (fun c_20 => ?_)
      · try simp only [b01_0, bz_0, Classical.not_not] at c_20
        refine rj_iconst (pc := 42) dX11_entries_42 ?_
        refine rj_iadd (pc := 43) dX11_entries_43 ?_
        refine r_istore_n (pc := 44) dX11_entries_44 (Nat.le_of_ble_eq_true rfl) ?_
        dsimp only [lsSt, List.set, mLs, mEnt]
        refine rj_iinc (pc := 45) dX11_entries_45 (Nat.le_of_ble_eq_true rfl) rfl ?_
        dsimp only [lsSt, List.set, mLs, mEnt]
        refine r_goto (pc := 48) (tgt := 4) dX11_entries_48 (by decide) ?_
        exfalso; omega
      · try simp only [b01_0, bz_0, Classical.not_not] at c_20
        refine r_aload_n (pc := 23) dX11_entries_23 rfl (by first | rfl | exact isRefV_rf _) ?_
        refine rm_getf (pc := 24) dX11_entries_24 fX11_11 (by assumption) rfl ?_
        refine r_iload_n (pc := 27) dX11_entries_27 rfl ?_
        refine rj_iconst (pc := 28) dX11_entries_28 ?_
        refine rj_iconst (pc := 29) dX11_entries_29 ?_
        refine r_callS3 (pc := 30) dX11_entries_30 qX11_ofThing kX11_54 sX11_ofThing (Nat.le_of_ble_eq_true rfl) (m_ofThing (d + 1)) (fun v_30 h_30 q_30 => ?_)
        obtain ⟨rfl, rfl⟩ := q_30
        refine rj_iald (pc := 33) dX11_entries_33 (by first | exact isM.g0 (by assumption) | exact isM.g3 (by assumption) | exact isM.g4 (by assumption) | exact isM.g8 (by assumption) | exact isM.g7 (by assumption) | exact isM.g6 (by assumption) | exact isM.g5 (by assumption) | exact isM.g1 (by assumption) | exact isM.g2 (by assumption)) (by first | assumption | exact b01_r | exact bz_r | omega | (constructor <;> omega) | exact hM _ | exact hPo _ | exact hTa _ | exact hRo _) (by first | assumption | exact b01_r | exact bz_r | omega | (constructor <;> omega) | exact hM _ | exact hPo _ | exact hTa _ | exact hRo _) (by first | assumption | exact b01_r | exact bz_r | omega | (constructor <;> omega) | exact hM _ | exact hPo _ | exact hTa _ | exact hRo _) rfl ?_
        refine r_iload_n (pc := 34) dX11_entries_34 rfl ?_
        refine rj_icmp_ne (pc := 35) (tgt := 42) dX11_entries_35 (by decide) (by first | assumption | exact b01_r | exact bz_r | omega | (constructor <;> omega) | exact hM _ | exact hPo _ | exact hTa _ | exact hRo _) (by first | assumption | exact b01_r | exact bz_r | omega | (constructor <;> omega) | exact hM _ | exact hPo _ | exact hTa _ | exact hRo _) (fun c_35 => ?_) (fun c_35 => ?_)
        · refine rj_iconst (pc := 42) dX11_entries_42 ?_
          refine rj_iadd (pc := 43) dX11_entries_43 ?_
          refine r_istore_n (pc := 44) dX11_entries_44 (Nat.le_of_ble_eq_true rfl) ?_
          dsimp only [lsSt, List.set, mLs, mEnt]
          refine rj_iinc (pc := 45) dX11_entries_45 (Nat.le_of_ble_eq_true rfl) rfl ?_
          dsimp only [lsSt, List.set, mLs, mEnt]
          refine r_goto (pc := 48) (tgt := 4) dX11_entries_48 (by decide) ?_
          exfalso; omega
        · refine rj_iconst (pc := 38) dX11_entries_38 ?_
          refine r_goto (pc := 39) (tgt := 43) dX11_entries_39 (by decide) ?_
          refine rj_iadd (pc := 43) dX11_entries_43 ?_
          refine r_istore_n (pc := 44) dX11_entries_44 (Nat.le_of_ble_eq_true rfl) ?_
          dsimp only [lsSt, List.set, mLs, mEnt]
          refine rj_iinc (pc := 45) dX11_entries_45 (Nat.le_of_ble_eq_true rfl) rfl ?_
          dsimp only [lsSt, List.set, mLs, mEnt]
          refine r_goto (pc := 48) (tgt := 4) dX11_entries_48 (by decide) ?_
          exfalso; omega
  | succ k ih =>
    intro t ht
    refine r_iload_n (pc := 4) dX11_entries_4 rfl ?_
    refine r_aload_n (pc := 5) dX11_entries_5 rfl (by first | rfl | exact isRefV_rf _) ?_
    refine rm_getf (pc := 6) dX11_entries_6 fX11_11 (by assumption) rfl ?_
    refine rj_iconst (pc := 9) dX11_entries_9 ?_
    refine rj_iald (pc := 10) (j := 1) dX11_entries_10 (by first | exact isM.g0 (by assumption) | exact isM.g3 (by assumption) | exact isM.g4 (by assumption) | exact isM.g8 (by assumption) | exact isM.g7 (by assumption) | exact isM.g6 (by assumption) | exact isM.g5 (by assumption) | exact isM.g1 (by assumption) | exact isM.g2 (by assumption)) (by first | assumption | exact b01_r | exact bz_r | omega | (constructor <;> omega) | exact hM _ | exact hPo _ | exact hTa _ | exact hRo _) (by first | assumption | exact b01_r | exact bz_r | omega | (constructor <;> omega) | exact hM _ | exact hPo _ | exact hTa _ | exact hRo _) (by first | assumption | exact b01_r | exact bz_r | omega | (constructor <;> omega) | exact hM _ | exact hPo _ | exact hTa _ | exact hRo _) rfl ?_
    refine rj_icmp_ge (pc := 11) (tgt := 51) dX11_entries_11 (by decide) (by first | assumption | exact b01_r | exact bz_r | omega | (constructor <;> omega) | exact hM _ | exact hPo _ | exact hTa _ | exact hRo _) (by first | assumption | exact b01_r | exact bz_r | omega | (constructor <;> omega) | exact hM _ | exact hPo _ | exact hTa _ | exact hRo _) (fun c_11 => ?_) (fun c_11 => ?_)
    · refine rj_iconst (pc := 51) dX11_entries_51 ?_
      refine r_istore_n (pc := 52) dX11_entries_52 (Nat.le_of_ble_eq_true rfl) ?_
      dsimp only [lsSt, List.set, mLs, mEnt]
      exfalso; omega
    · refine r_iload_n (pc := 14) dX11_entries_14 rfl ?_
      refine r_aload_n (pc := 15) dX11_entries_15 rfl (by first | rfl | exact isRefV_rf _) ?_
      refine r_iload_n (pc := 16) dX11_entries_16 rfl ?_
      refine r_callV1 (pc := 17) dX11_entries_17 qX11_isHeld kX11_119 vX11_isHeld (by exact isM.gx (by assumption)) rfl rfl (Nat.le_of_ble_eq_true rfl) (m_isHeld d hB hM (by omega) (by omega)) (fun v_17 h_17 q_17 => ?_)
      obtain ⟨rfl, rfl⟩ := q_17
      refine rj_if_eq (pc := 20) (tgt := 42) dX11_entries_20 (by decide) (by first | assumption | exact b01_r | exact bz_r | omega | (constructor <;> omega) | exact hM _ | exact hPo _ | exact hTa _ | exact hRo _) (fun c_20 => ?_) (fun c_20 => ?_)
      · try simp only [b01_0, bz_0, Classical.not_not] at c_20
        refine rj_iconst (pc := 42) dX11_entries_42 ?_
        refine rj_iadd (pc := 43) dX11_entries_43 ?_
        refine r_istore_n (pc := 44) dX11_entries_44 (Nat.le_of_ble_eq_true rfl) ?_
        dsimp only [lsSt, List.set, mLs, mEnt]
        refine rj_iinc (pc := 45) dX11_entries_45 (Nat.le_of_ble_eq_true rfl) rfl ?_
        dsimp only [lsSt, List.set, mLs, mEnt]
        refine r_goto (pc := 48) (tgt := 4) dX11_entries_48 (by decide) ?_
        have z := ih (t + 1) (by omega)
        rw [← cnt_f (by first | exact decide_eq_true (by (try simp only [n_open, n_held, n_ready, n_sc0, n_sc1, n_sc3, n_th1, n_fa] at *); omega) | exact decide_eq_false (by (try simp only [n_open, n_held, n_ready, n_sc0, n_sc1, n_sc3, n_th1, n_fa] at *); omega))] at z
        exact z
      · try simp only [b01_0, bz_0, Classical.not_not] at c_20
        refine r_aload_n (pc := 23) dX11_entries_23 rfl (by first | rfl | exact isRefV_rf _) ?_
        refine rm_getf (pc := 24) dX11_entries_24 fX11_11 (by assumption) rfl ?_
        refine r_iload_n (pc := 27) dX11_entries_27 rfl ?_
        refine rj_iconst (pc := 28) dX11_entries_28 ?_
        refine rj_iconst (pc := 29) dX11_entries_29 ?_
        refine r_callS3 (pc := 30) dX11_entries_30 qX11_ofThing kX11_54 sX11_ofThing (Nat.le_of_ble_eq_true rfl) (m_ofThing (d + 1)) (fun v_30 h_30 q_30 => ?_)
        obtain ⟨rfl, rfl⟩ := q_30
        refine rj_iald (pc := 33) dX11_entries_33 (by first | exact isM.g0 (by assumption) | exact isM.g3 (by assumption) | exact isM.g4 (by assumption) | exact isM.g8 (by assumption) | exact isM.g7 (by assumption) | exact isM.g6 (by assumption) | exact isM.g5 (by assumption) | exact isM.g1 (by assumption) | exact isM.g2 (by assumption)) (by first | assumption | exact b01_r | exact bz_r | omega | (constructor <;> omega) | exact hM _ | exact hPo _ | exact hTa _ | exact hRo _) (by first | assumption | exact b01_r | exact bz_r | omega | (constructor <;> omega) | exact hM _ | exact hPo _ | exact hTa _ | exact hRo _) (by first | assumption | exact b01_r | exact bz_r | omega | (constructor <;> omega) | exact hM _ | exact hPo _ | exact hTa _ | exact hRo _) rfl ?_
        refine r_iload_n (pc := 34) dX11_entries_34 rfl ?_
        refine rj_icmp_ne (pc := 35) (tgt := 42) dX11_entries_35 (by decide) (by first | assumption | exact b01_r | exact bz_r | omega | (constructor <;> omega) | exact hM _ | exact hPo _ | exact hTa _ | exact hRo _) (by first | assumption | exact b01_r | exact bz_r | omega | (constructor <;> omega) | exact hM _ | exact hPo _ | exact hTa _ | exact hRo _) (fun c_35 => ?_) (fun c_35 => ?_)
        · refine rj_iconst (pc := 42) dX11_entries_42 ?_
          refine rj_iadd (pc := 43) dX11_entries_43 ?_
          refine r_istore_n (pc := 44) dX11_entries_44 (Nat.le_of_ble_eq_true rfl) ?_
          dsimp only [lsSt, List.set, mLs, mEnt]
          refine rj_iinc (pc := 45) dX11_entries_45 (Nat.le_of_ble_eq_true rfl) rfl ?_
          dsimp only [lsSt, List.set, mLs, mEnt]
          refine r_goto (pc := 48) (tgt := 4) dX11_entries_48 (by decide) ?_
          have z := ih (t + 1) (by omega)
          rw [← cnt_f (by first | exact decide_eq_true (by (try simp only [n_open, n_held, n_ready, n_sc0, n_sc1, n_sc3, n_th1, n_fa] at *); omega) | exact decide_eq_false (by (try simp only [n_open, n_held, n_ready, n_sc0, n_sc1, n_sc3, n_th1, n_fa] at *); omega))] at z
          exact z
        · refine rj_iconst (pc := 38) dX11_entries_38 ?_
          refine r_goto (pc := 39) (tgt := 43) dX11_entries_39 (by decide) ?_
          refine rj_iadd (pc := 43) dX11_entries_43 ?_
          refine r_istore_n (pc := 44) dX11_entries_44 (Nat.le_of_ble_eq_true rfl) ?_
          dsimp only [lsSt, List.set, mLs, mEnt]
          refine rj_iinc (pc := 45) dX11_entries_45 (Nat.le_of_ble_eq_true rfl) rfl ?_
          dsimp only [lsSt, List.set, mLs, mEnt]
          refine r_goto (pc := 48) (tgt := 4) dX11_entries_48 (by decide) ?_
          have z := ih (t + 1) (by omega)
          rw [← cnt_t (by first | exact decide_eq_true (by (try simp only [n_open, n_held, n_ready, n_sc0, n_sc1, n_sc3, n_th1, n_fa] at *); omega) | exact decide_eq_false (by (try simp only [n_open, n_held, n_ready, n_sc0, n_sc1, n_sc3, n_th1, n_fa] at *); omega))] at z
          exact z
set_option maxHeartbeats 4000000 in
set_option maxRecDepth 100000 in
theorem m_entries {G : mG} {l : Launch} (d : Nat) {h : mH} {x s : Nat} {f4 f6 f8 f9 f10 f11 f12 f13 f14 f16 f18 : Int} {m kp was pool tape pln pap rwd rw : Nat → Int}(hB : isM h x (mFs x f4 f6 f8 f9 f10 f11 f12 f13 f14 f16 f18 s) m kp was pool tape pln pap rwd rw) (hM : ∀ q, InR (m q)) {N C : Nat} (hN : m 1 = (N : Int)) (hcap : N ≤ 90) (hC : m 0 = (C : Int)) (hC1 : 1 ≤ C) (hC2 : C ≤ 60) {a : Int} (ha : InR a) : RUNM G l (d + 2) mX11_entries [.ref x, .int (J a)] h (fun v h' => v = some (.int (J (entsN m a N C))) ∧ h' = h) := by
  refine RUNM.of (by decide +kernel) (Nat.le_of_ble_eq_true rfl) ?_
  refine rj_iconst (pc := 0) dX11_entries_0 ?_
  refine r_istore_n (pc := 1) dX11_entries_1 (Nat.le_of_ble_eq_true rfl) ?_
  dsimp only [lsSt, List.set, mLs, mEnt]
  refine rj_iconst (pc := 2) dX11_entries_2 ?_
  refine r_istore_n (pc := 3) dX11_entries_3 (Nat.le_of_ble_eq_true rfl) ?_
  dsimp only [lsSt, List.set, mLs, mEnt]
  exact L_entT d hB hM hN hcap hC hC1 hC2 ha N 0 (by omega)
end mg_22
section mg_23
/-! ===== contracts of the reference: what writes ===== -/
set_option maxHeartbeats 4000000 in
set_option maxRecDepth 100000 in
theorem m_stamp {G : mG} {l : Launch} (d : Nat) {h : mH} {x s : Nat} {f4 f6 f8 f9 f10 f11 f12 f13 f14 f16 f18 : Int} {m kp was pool tape pln pap rwd rw : Nat → Int}(hB : isM h x (mFs x f4 f6 f8 f9 f10 f11 f12 f13 f14 f16 f18 s) m kp was pool tape pln pap rwd rw) : RUNM G l (d) mX11_stamp [.ref x] h (fun v h' => v = some (.int (J (m 6 + 1))) ∧ isM h' x (mFs x f4 f6 f8 f9 f10 f11 f12 f13 f14 f16 f18 s) (updI m 6 (m 6 + 1)) kp was pool tape pln pap rwd rw ∧ Same (mBlk x) h h') := by
  dsimp only [mFs] at hB
  refine RUNM.of (by decide +kernel) (Nat.le_of_ble_eq_true rfl) ?_
  refine r_aload_n (pc := 0) dX11_stamp_0 rfl (by first | rfl | exact isRefV_rf _) ?_
  refine rm_getf (pc := 1) dX11_stamp_1 fX11_11 (by assumption) rfl ?_
  refine rj_bipush (pc := 4) dX11_stamp_4 (by decide +kernel) ?_
  refine r_dup2 (pc := 6) dX11_stamp_6 rfl rfl ?_
  refine rj_iald (pc := 7) (j := 6) dX11_stamp_7 (by first | exact isM.g0 (by assumption) | exact isM.g3 (by assumption) | exact isM.g4 (by assumption) | exact isM.g8 (by assumption) | exact isM.g7 (by assumption) | exact isM.g6 (by assumption) | exact isM.g5 (by assumption) | exact isM.g1 (by assumption) | exact isM.g2 (by assumption)) (by first | assumption | exact b01_r | exact bz_r | omega | (constructor <;> omega) | exact hM _ | exact hPo _ | exact hTa _ | exact hRo _) (by first | assumption | exact b01_r | exact bz_r | omega | (constructor <;> omega) | exact hM _ | exact hPo _ | exact hTa _ | exact hRo _) (by first | assumption | exact b01_r | exact bz_r | omega | (constructor <;> omega) | exact hM _ | exact hPo _ | exact hTa _ | exact hRo _) rfl ?_
  refine rj_iconst (pc := 8) dX11_stamp_8 ?_
  refine rj_iadd (pc := 9) dX11_stamp_9 ?_
  first | refine rm_iast0 (pc := 10) (j := 6) dX11_stamp_10 (by assumption) (by first | assumption | exact b01_r | exact bz_r | omega | (constructor <;> omega) | exact hM _ | exact hPo _ | exact hTa _ | exact hRo _) (by first | assumption | exact b01_r | exact bz_r | omega | (constructor <;> omega) | exact hM _ | exact hPo _ | exact hTa _ | exact hRo _) (by first | assumption | exact b01_r | exact bz_r | omega | (constructor <;> omega) | exact hM _ | exact hPo _ | exact hTa _ | exact hRo _) (by omega) (fun h_10 hB_10 hS_10 => ?_) | refine rm_iast3 (pc := 10) (j := 6) dX11_stamp_10 (by assumption) (by first | assumption | exact b01_r | exact bz_r | omega | (constructor <;> omega) | exact hM _ | exact hPo _ | exact hTa _ | exact hRo _) (by first | assumption | exact b01_r | exact bz_r | omega | (constructor <;> omega) | exact hM _ | exact hPo _ | exact hTa _ | exact hRo _) (by first | assumption | exact b01_r | exact bz_r | omega | (constructor <;> omega) | exact hM _ | exact hPo _ | exact hTa _ | exact hRo _) (by omega) (fun h_10 hB_10 hS_10 => ?_) | refine rm_iast4 (pc := 10) (j := 6) dX11_stamp_10 (by assumption) (by first | assumption | exact b01_r | exact bz_r | omega | (constructor <;> omega) | exact hM _ | exact hPo _ | exact hTa _ | exact hRo _) (by first | assumption | exact b01_r | exact bz_r | omega | (constructor <;> omega) | exact hM _ | exact hPo _ | exact hTa _ | exact hRo _) (by first | assumption | exact b01_r | exact bz_r | omega | (constructor <;> omega) | exact hM _ | exact hPo _ | exact hTa _ | exact hRo _) (by omega) (fun h_10 hB_10 hS_10 => ?_) | refine rm_iast8 (pc := 10) (j := 6) dX11_stamp_10 (by assumption) (by first | assumption | exact b01_r | exact bz_r | omega | (constructor <;> omega) | exact hM _ | exact hPo _ | exact hTa _ | exact hRo _) (by first | assumption | exact b01_r | exact bz_r | omega | (constructor <;> omega) | exact hM _ | exact hPo _ | exact hTa _ | exact hRo _) (by first | assumption | exact b01_r | exact bz_r | omega | (constructor <;> omega) | exact hM _ | exact hPo _ | exact hTa _ | exact hRo _) (by omega) (fun h_10 hB_10 hS_10 => ?_) | refine rm_iast7 (pc := 10) (j := 6) dX11_stamp_10 (by assumption) (by first | assumption | exact b01_r | exact bz_r | omega | (constructor <;> omega) | exact hM _ | exact hPo _ | exact hTa _ | exact hRo _) (by first | assumption | exact b01_r | exact bz_r | omega | (constructor <;> omega) | exact hM _ | exact hPo _ | exact hTa _ | exact hRo _) (by first | assumption | exact b01_r | exact bz_r | omega | (constructor <;> omega) | exact hM _ | exact hPo _ | exact hTa _ | exact hRo _) (by omega) (fun h_10 hB_10 hS_10 => ?_) | refine rm_iast6 (pc := 10) (j := 6) dX11_stamp_10 (by assumption) (by first | assumption | exact b01_r | exact bz_r | omega | (constructor <;> omega) | exact hM _ | exact hPo _ | exact hTa _ | exact hRo _) (by first | assumption | exact b01_r | exact bz_r | omega | (constructor <;> omega) | exact hM _ | exact hPo _ | exact hTa _ | exact hRo _) (by first | assumption | exact b01_r | exact bz_r | omega | (constructor <;> omega) | exact hM _ | exact hPo _ | exact hTa _ | exact hRo _) (by omega) (fun h_10 hB_10 hS_10 => ?_) | refine rm_iast5 (pc := 10) (j := 6) dX11_stamp_10 (by assumption) (by first | assumption | exact b01_r | exact bz_r | omega | (constructor <;> omega) | exact hM _ | exact hPo _ | exact hTa _ | exact hRo _) (by first | assumption | exact b01_r | exact bz_r | omega | (constructor <;> omega) | exact hM _ | exact hPo _ | exact hTa _ | exact hRo _) (by first | assumption | exact b01_r | exact bz_r | omega | (constructor <;> omega) | exact hM _ | exact hPo _ | exact hTa _ | exact hRo _) (by omega) (fun h_10 hB_10 hS_10 => ?_) | refine rm_iast1 (pc := 10) (j := 6) dX11_stamp_10 (by assumption) (by first | assumption | exact b01_r | exact bz_r | omega | (constructor <;> omega) | exact hM _ | exact hPo _ | exact hTa _ | exact hRo _) (by first | assumption | exact b01_r | exact bz_r | omega | (constructor <;> omega) | exact hM _ | exact hPo _ | exact hTa _ | exact hRo _) (by first | assumption | exact b01_r | exact bz_r | omega | (constructor <;> omega) | exact hM _ | exact hPo _ | exact hTa _ | exact hRo _) (by omega) (fun h_10 hB_10 hS_10 => ?_) | refine rm_iast2 (pc := 10) (j := 6) dX11_stamp_10 (by assumption) (by first | assumption | exact b01_r | exact bz_r | omega | (constructor <;> omega) | exact hM _ | exact hPo _ | exact hTa _ | exact hRo _) (by first | assumption | exact b01_r | exact bz_r | omega | (constructor <;> omega) | exact hM _ | exact hPo _ | exact hTa _ | exact hRo _) (by first | assumption | exact b01_r | exact bz_r | omega | (constructor <;> omega) | exact hM _ | exact hPo _ | exact hTa _ | exact hRo _) (by omega) (fun h_10 hB_10 hS_10 => ?_)
  refine r_aload_n (pc := 11) dX11_stamp_11 rfl (by first | rfl | exact isRefV_rf _) ?_
  refine rm_getf (pc := 12) dX11_stamp_12 fX11_11 (by assumption) rfl ?_
  refine rj_bipush (pc := 15) dX11_stamp_15 (by decide +kernel) ?_
  refine rj_iald (pc := 17) (j := 6) dX11_stamp_17 (by first | exact isM.g0 (by assumption) | exact isM.g3 (by assumption) | exact isM.g4 (by assumption) | exact isM.g8 (by assumption) | exact isM.g7 (by assumption) | exact isM.g6 (by assumption) | exact isM.g5 (by assumption) | exact isM.g1 (by assumption) | exact isM.g2 (by assumption)) (by first | assumption | exact b01_r | exact bz_r | omega | (constructor <;> omega) | exact hM _ | exact hPo _ | exact hTa _ | exact hRo _) (by first | assumption | exact b01_r | exact bz_r | omega | (constructor <;> omega) | exact hM _ | exact hPo _ | exact hTa _ | exact hRo _) (by first | assumption | exact b01_r | exact bz_r | omega | (constructor <;> omega) | exact hM _ | exact hPo _ | exact hTa _ | exact hRo _) rfl ?_
  refine r_ireturn (pc := 18) .int dX11_stamp_18 rfl (by first | rfl | assumption) ?_
  exact ⟨by rw [updI_s], hB_10, hS_10⟩
def opensM (m : Nat → Int) (C : Nat) (p t : Int) : Nat → Int := updI (updI (updI (updI (updI (updI m 0 (C + 1)) (18 + 4 * C) 0) (19 + 4 * C) p) 6 (m 6 + 1)) (20 + 4 * C) (m 6 + 1)) (21 + 4 * C) t
set_option maxHeartbeats 4000000 in
set_option maxRecDepth 100000 in
theorem m_opens {G : mG} {l : Launch} (d : Nat) {h : mH} {x s : Nat} {f4 f6 f8 f9 f10 f11 f12 f13 f14 f16 f18 : Int} {m kp was pool tape pln pap rwd rw : Nat → Int}(hB : isM h x (mFs x f4 f6 f8 f9 f10 f11 f12 f13 f14 f16 f18 s) m kp was pool tape pln pap rwd rw) {C : Nat} (hC : m 0 = (C : Int)) (hC2 : C ≤ 59) {p t : Int} : RUNM G l (d + 1) mX11_opens [.ref x, .int (J p), .int (J t)] h (fun v h' => v = some (.int (J C)) ∧ isM h' x (mFs x f4 f6 f8 f9 f10 f11 f12 f13 f14 f16 f18 s) (opensM m C p t) kp was pool tape pln pap rwd rw ∧ Same (mBlk x) h h') := by
  dsimp only [mFs] at hB
  refine RUNM.of (by decide +kernel) (Nat.le_of_ble_eq_true rfl) ?_
  have r0 : InR (m 0) := ⟨by omega, by omega⟩
  refine r_aload_n (pc := 0) dX11_opens_0 rfl (by first | rfl | exact isRefV_rf _) ?_
  refine rm_getf (pc := 1) dX11_opens_1 fX11_11 (by assumption) rfl ?_
  refine rj_iconst (pc := 4) dX11_opens_4 ?_
  refine rj_iald (pc := 5) (j := 0) dX11_opens_5 (by first | exact isM.g0 (by assumption) | exact isM.g3 (by assumption) | exact isM.g4 (by assumption) | exact isM.g8 (by assumption) | exact isM.g7 (by assumption) | exact isM.g6 (by assumption) | exact isM.g5 (by assumption) | exact isM.g1 (by assumption) | exact isM.g2 (by assumption)) (by first | assumption | exact b01_r | exact bz_r | omega | (constructor <;> omega) | exact hM _ | exact hPo _ | exact hTa _ | exact hRo _) (by first | assumption | exact b01_r | exact bz_r | omega | (constructor <;> omega) | exact hM _ | exact hPo _ | exact hTa _ | exact hRo _) (by first | assumption | exact b01_r | exact bz_r | omega | (constructor <;> omega) | exact hM _ | exact hPo _ | exact hTa _ | exact hRo _) rfl ?_
  rw [hC]
  refine r_istore_n (pc := 6) dX11_opens_6 (Nat.le_of_ble_eq_true rfl) ?_
  dsimp only [lsSt, List.set, mLs, mEnt]
  refine r_aload_n (pc := 7) dX11_opens_7 rfl (by first | rfl | exact isRefV_rf _) ?_
  refine rm_getf (pc := 8) dX11_opens_8 fX11_11 (by assumption) rfl ?_
  refine rj_iconst (pc := 11) dX11_opens_11 ?_
  refine r_dup2 (pc := 12) dX11_opens_12 rfl rfl ?_
  refine rj_iald (pc := 13) (j := 0) dX11_opens_13 (by first | exact isM.g0 (by assumption) | exact isM.g3 (by assumption) | exact isM.g4 (by assumption) | exact isM.g8 (by assumption) | exact isM.g7 (by assumption) | exact isM.g6 (by assumption) | exact isM.g5 (by assumption) | exact isM.g1 (by assumption) | exact isM.g2 (by assumption)) (by first | assumption | exact b01_r | exact bz_r | omega | (constructor <;> omega) | exact hM _ | exact hPo _ | exact hTa _ | exact hRo _) (by first | assumption | exact b01_r | exact bz_r | omega | (constructor <;> omega) | exact hM _ | exact hPo _ | exact hTa _ | exact hRo _) (by first | assumption | exact b01_r | exact bz_r | omega | (constructor <;> omega) | exact hM _ | exact hPo _ | exact hTa _ | exact hRo _) rfl ?_
  refine rj_iconst (pc := 14) dX11_opens_14 ?_
  refine rj_iadd (pc := 15) dX11_opens_15 ?_
  rw [hC]
  first | refine rm_iast0 (pc := 16) (j := 0) dX11_opens_16 (by assumption) (by first | assumption | exact b01_r | exact bz_r | omega | (constructor <;> omega) | exact hM _ | exact hPo _ | exact hTa _ | exact hRo _) (by first | assumption | exact b01_r | exact bz_r | omega | (constructor <;> omega) | exact hM _ | exact hPo _ | exact hTa _ | exact hRo _) (by first | assumption | exact b01_r | exact bz_r | omega | (constructor <;> omega) | exact hM _ | exact hPo _ | exact hTa _ | exact hRo _) (by omega) (fun h_16 hB_16 hS_16 => ?_) | refine rm_iast3 (pc := 16) (j := 0) dX11_opens_16 (by assumption) (by first | assumption | exact b01_r | exact bz_r | omega | (constructor <;> omega) | exact hM _ | exact hPo _ | exact hTa _ | exact hRo _) (by first | assumption | exact b01_r | exact bz_r | omega | (constructor <;> omega) | exact hM _ | exact hPo _ | exact hTa _ | exact hRo _) (by first | assumption | exact b01_r | exact bz_r | omega | (constructor <;> omega) | exact hM _ | exact hPo _ | exact hTa _ | exact hRo _) (by omega) (fun h_16 hB_16 hS_16 => ?_) | refine rm_iast4 (pc := 16) (j := 0) dX11_opens_16 (by assumption) (by first | assumption | exact b01_r | exact bz_r | omega | (constructor <;> omega) | exact hM _ | exact hPo _ | exact hTa _ | exact hRo _) (by first | assumption | exact b01_r | exact bz_r | omega | (constructor <;> omega) | exact hM _ | exact hPo _ | exact hTa _ | exact hRo _) (by first | assumption | exact b01_r | exact bz_r | omega | (constructor <;> omega) | exact hM _ | exact hPo _ | exact hTa _ | exact hRo _) (by omega) (fun h_16 hB_16 hS_16 => ?_) | refine rm_iast8 (pc := 16) (j := 0) dX11_opens_16 (by assumption) (by first | assumption | exact b01_r | exact bz_r | omega | (constructor <;> omega) | exact hM _ | exact hPo _ | exact hTa _ | exact hRo _) (by first | assumption | exact b01_r | exact bz_r | omega | (constructor <;> omega) | exact hM _ | exact hPo _ | exact hTa _ | exact hRo _) (by first | assumption | exact b01_r | exact bz_r | omega | (constructor <;> omega) | exact hM _ | exact hPo _ | exact hTa _ | exact hRo _) (by omega) (fun h_16 hB_16 hS_16 => ?_) | refine rm_iast7 (pc := 16) (j := 0) dX11_opens_16 (by assumption) (by first | assumption | exact b01_r | exact bz_r | omega | (constructor <;> omega) | exact hM _ | exact hPo _ | exact hTa _ | exact hRo _) (by first | assumption | exact b01_r | exact bz_r | omega | (constructor <;> omega) | exact hM _ | exact hPo _ | exact hTa _ | exact hRo _) (by first | assumption | exact b01_r | exact bz_r | omega | (constructor <;> omega) | exact hM _ | exact hPo _ | exact hTa _ | exact hRo _) (by omega) (fun h_16 hB_16 hS_16 => ?_) | refine rm_iast6 (pc := 16) (j := 0) dX11_opens_16 (by assumption) (by first | assumption | exact b01_r | exact bz_r | omega | (constructor <;> omega) | exact hM _ | exact hPo _ | exact hTa _ | exact hRo _) (by first | assumption | exact b01_r | exact bz_r | omega | (constructor <;> omega) | exact hM _ | exact hPo _ | exact hTa _ | exact hRo _) (by first | assumption | exact b01_r | exact bz_r | omega | (constructor <;> omega) | exact hM _ | exact hPo _ | exact hTa _ | exact hRo _) (by omega) (fun h_16 hB_16 hS_16 => ?_) | refine rm_iast5 (pc := 16) (j := 0) dX11_opens_16 (by assumption) (by first | assumption | exact b01_r | exact bz_r | omega | (constructor <;> omega) | exact hM _ | exact hPo _ | exact hTa _ | exact hRo _) (by first | assumption | exact b01_r | exact bz_r | omega | (constructor <;> omega) | exact hM _ | exact hPo _ | exact hTa _ | exact hRo _) (by first | assumption | exact b01_r | exact bz_r | omega | (constructor <;> omega) | exact hM _ | exact hPo _ | exact hTa _ | exact hRo _) (by omega) (fun h_16 hB_16 hS_16 => ?_) | refine rm_iast1 (pc := 16) (j := 0) dX11_opens_16 (by assumption) (by first | assumption | exact b01_r | exact bz_r | omega | (constructor <;> omega) | exact hM _ | exact hPo _ | exact hTa _ | exact hRo _) (by first | assumption | exact b01_r | exact bz_r | omega | (constructor <;> omega) | exact hM _ | exact hPo _ | exact hTa _ | exact hRo _) (by first | assumption | exact b01_r | exact bz_r | omega | (constructor <;> omega) | exact hM _ | exact hPo _ | exact hTa _ | exact hRo _) (by omega) (fun h_16 hB_16 hS_16 => ?_) | refine rm_iast2 (pc := 16) (j := 0) dX11_opens_16 (by assumption) (by first | assumption | exact b01_r | exact bz_r | omega | (constructor <;> omega) | exact hM _ | exact hPo _ | exact hTa _ | exact hRo _) (by first | assumption | exact b01_r | exact bz_r | omega | (constructor <;> omega) | exact hM _ | exact hPo _ | exact hTa _ | exact hRo _) (by first | assumption | exact b01_r | exact bz_r | omega | (constructor <;> omega) | exact hM _ | exact hPo _ | exact hTa _ | exact hRo _) (by omega) (fun h_16 hB_16 hS_16 => ?_)
  refine r_aload_n (pc := 17) dX11_opens_17 rfl (by first | rfl | exact isRefV_rf _) ?_
  refine rm_getf (pc := 18) dX11_opens_18 fX11_11 (by assumption) rfl ?_
  refine r_iload_n (pc := 21) dX11_opens_21 rfl ?_
  refine rj_iconst (pc := 22) dX11_opens_22 ?_
  refine r_callS2 (pc := 23) dX11_opens_23 qX11_ofScope kX11_42 sX11_ofScope (Nat.le_of_ble_eq_true rfl) (m_ofScope d) (fun v_23 h_23 q_23 => ?_)
  obtain ⟨rfl, rfl⟩ := q_23
  refine rj_iconst (pc := 26) dX11_opens_26 ?_
  first | refine rm_iast0 (pc := 27) (j := 18 + 4 * C) dX11_opens_27 (by assumption) (by first | assumption | exact b01_r | exact bz_r | omega | (constructor <;> omega) | exact hM _ | exact hPo _ | exact hTa _ | exact hRo _) (by first | assumption | exact b01_r | exact bz_r | omega | (constructor <;> omega) | exact hM _ | exact hPo _ | exact hTa _ | exact hRo _) (by first | assumption | exact b01_r | exact bz_r | omega | (constructor <;> omega) | exact hM _ | exact hPo _ | exact hTa _ | exact hRo _) (by omega) (fun h_27 hB_27 hS_27 => ?_) | refine rm_iast3 (pc := 27) (j := 18 + 4 * C) dX11_opens_27 (by assumption) (by first | assumption | exact b01_r | exact bz_r | omega | (constructor <;> omega) | exact hM _ | exact hPo _ | exact hTa _ | exact hRo _) (by first | assumption | exact b01_r | exact bz_r | omega | (constructor <;> omega) | exact hM _ | exact hPo _ | exact hTa _ | exact hRo _) (by first | assumption | exact b01_r | exact bz_r | omega | (constructor <;> omega) | exact hM _ | exact hPo _ | exact hTa _ | exact hRo _) (by omega) (fun h_27 hB_27 hS_27 => ?_) | refine rm_iast4 (pc := 27) (j := 18 + 4 * C) dX11_opens_27 (by assumption) (by first | assumption | exact b01_r | exact bz_r | omega | (constructor <;> omega) | exact hM _ | exact hPo _ | exact hTa _ | exact hRo _) (by first | assumption | exact b01_r | exact bz_r | omega | (constructor <;> omega) | exact hM _ | exact hPo _ | exact hTa _ | exact hRo _) (by first | assumption | exact b01_r | exact bz_r | omega | (constructor <;> omega) | exact hM _ | exact hPo _ | exact hTa _ | exact hRo _) (by omega) (fun h_27 hB_27 hS_27 => ?_) | refine rm_iast8 (pc := 27) (j := 18 + 4 * C) dX11_opens_27 (by assumption) (by first | assumption | exact b01_r | exact bz_r | omega | (constructor <;> omega) | exact hM _ | exact hPo _ | exact hTa _ | exact hRo _) (by first | assumption | exact b01_r | exact bz_r | omega | (constructor <;> omega) | exact hM _ | exact hPo _ | exact hTa _ | exact hRo _) (by first | assumption | exact b01_r | exact bz_r | omega | (constructor <;> omega) | exact hM _ | exact hPo _ | exact hTa _ | exact hRo _) (by omega) (fun h_27 hB_27 hS_27 => ?_) | refine rm_iast7 (pc := 27) (j := 18 + 4 * C) dX11_opens_27 (by assumption) (by first | assumption | exact b01_r | exact bz_r | omega | (constructor <;> omega) | exact hM _ | exact hPo _ | exact hTa _ | exact hRo _) (by first | assumption | exact b01_r | exact bz_r | omega | (constructor <;> omega) | exact hM _ | exact hPo _ | exact hTa _ | exact hRo _) (by first | assumption | exact b01_r | exact bz_r | omega | (constructor <;> omega) | exact hM _ | exact hPo _ | exact hTa _ | exact hRo _) (by omega) (fun h_27 hB_27 hS_27 => ?_) | refine rm_iast6 (pc := 27) (j := 18 + 4 * C) dX11_opens_27 (by assumption) (by first | assumption | exact b01_r | exact bz_r | omega | (constructor <;> omega) | exact hM _ | exact hPo _ | exact hTa _ | exact hRo _) (by first | assumption | exact b01_r | exact bz_r | omega | (constructor <;> omega) | exact hM _ | exact hPo _ | exact hTa _ | exact hRo _) (by first | assumption | exact b01_r | exact bz_r | omega | (constructor <;> omega) | exact hM _ | exact hPo _ | exact hTa _ | exact hRo _) (by omega) (fun h_27 hB_27 hS_27 => ?_) | refine rm_iast5 (pc := 27) (j := 18 + 4 * C) dX11_opens_27 (by assumption) (by first | assumption | exact b01_r | exact bz_r | omega | (constructor <;> omega) | exact hM _ | exact hPo _ | exact hTa _ | exact hRo _) (by first | assumption | exact b01_r | exact bz_r | omega | (constructor <;> omega) | exact hM _ | exact hPo _ | exact hTa _ | exact hRo _) (by first | assumption | exact b01_r | exact bz_r | omega | (constructor <;> omega) | exact hM _ | exact hPo _ | exact hTa _ | exact hRo _) (by omega) (fun h_27 hB_27 hS_27 => ?_) | refine rm_iast1 (pc := 27) (j := 18 + 4 * C) dX11_opens_27 (by assumption) (by first | assumption | exact b01_r | exact bz_r | omega | (constructor <;> omega) | exact hM _ | exact hPo _ | exact hTa _ | exact hRo _) (by first | assumption | exact b01_r | exact bz_r | omega | (constructor <;> omega) | exact hM _ | exact hPo _ | exact hTa _ | exact hRo _) (by first | assumption | exact b01_r | exact bz_r | omega | (constructor <;> omega) | exact hM _ | exact hPo _ | exact hTa _ | exact hRo _) (by omega) (fun h_27 hB_27 hS_27 => ?_) | refine rm_iast2 (pc := 27) (j := 18 + 4 * C) dX11_opens_27 (by assumption) (by first | assumption | exact b01_r | exact bz_r | omega | (constructor <;> omega) | exact hM _ | exact hPo _ | exact hTa _ | exact hRo _) (by first | assumption | exact b01_r | exact bz_r | omega | (constructor <;> omega) | exact hM _ | exact hPo _ | exact hTa _ | exact hRo _) (by first | assumption | exact b01_r | exact bz_r | omega | (constructor <;> omega) | exact hM _ | exact hPo _ | exact hTa _ | exact hRo _) (by omega) (fun h_27 hB_27 hS_27 => ?_)
  refine r_aload_n (pc := 28) dX11_opens_28 rfl (by first | rfl | exact isRefV_rf _) ?_
  refine rm_getf (pc := 29) dX11_opens_29 fX11_11 (by assumption) rfl ?_
  refine r_iload_n (pc := 32) dX11_opens_32 rfl ?_
  refine rj_iconst (pc := 33) dX11_opens_33 ?_
  refine r_callS2 (pc := 34) dX11_opens_34 qX11_ofScope kX11_42 sX11_ofScope (Nat.le_of_ble_eq_true rfl) (m_ofScope d) (fun v_34 h_34 q_34 => ?_)
  obtain ⟨rfl, rfl⟩ := q_34
  refine r_iload_n (pc := 37) dX11_opens_37 rfl ?_
  first | refine rm_iast0 (pc := 38) (j := 19 + 4 * C) dX11_opens_38 (by assumption) (by first | assumption | exact b01_r | exact bz_r | omega | (constructor <;> omega) | exact hM _ | exact hPo _ | exact hTa _ | exact hRo _) (by first | assumption | exact b01_r | exact bz_r | omega | (constructor <;> omega) | exact hM _ | exact hPo _ | exact hTa _ | exact hRo _) (by first | assumption | exact b01_r | exact bz_r | omega | (constructor <;> omega) | exact hM _ | exact hPo _ | exact hTa _ | exact hRo _) (by omega) (fun h_38 hB_38 hS_38 => ?_) | refine rm_iast3 (pc := 38) (j := 19 + 4 * C) dX11_opens_38 (by assumption) (by first | assumption | exact b01_r | exact bz_r | omega | (constructor <;> omega) | exact hM _ | exact hPo _ | exact hTa _ | exact hRo _) (by first | assumption | exact b01_r | exact bz_r | omega | (constructor <;> omega) | exact hM _ | exact hPo _ | exact hTa _ | exact hRo _) (by first | assumption | exact b01_r | exact bz_r | omega | (constructor <;> omega) | exact hM _ | exact hPo _ | exact hTa _ | exact hRo _) (by omega) (fun h_38 hB_38 hS_38 => ?_) | refine rm_iast4 (pc := 38) (j := 19 + 4 * C) dX11_opens_38 (by assumption) (by first | assumption | exact b01_r | exact bz_r | omega | (constructor <;> omega) | exact hM _ | exact hPo _ | exact hTa _ | exact hRo _) (by first | assumption | exact b01_r | exact bz_r | omega | (constructor <;> omega) | exact hM _ | exact hPo _ | exact hTa _ | exact hRo _) (by first | assumption | exact b01_r | exact bz_r | omega | (constructor <;> omega) | exact hM _ | exact hPo _ | exact hTa _ | exact hRo _) (by omega) (fun h_38 hB_38 hS_38 => ?_) | refine rm_iast8 (pc := 38) (j := 19 + 4 * C) dX11_opens_38 (by assumption) (by first | assumption | exact b01_r | exact bz_r | omega | (constructor <;> omega) | exact hM _ | exact hPo _ | exact hTa _ | exact hRo _) (by first | assumption | exact b01_r | exact bz_r | omega | (constructor <;> omega) | exact hM _ | exact hPo _ | exact hTa _ | exact hRo _) (by first | assumption | exact b01_r | exact bz_r | omega | (constructor <;> omega) | exact hM _ | exact hPo _ | exact hTa _ | exact hRo _) (by omega) (fun h_38 hB_38 hS_38 => ?_) | refine rm_iast7 (pc := 38) (j := 19 + 4 * C) dX11_opens_38 (by assumption) (by first | assumption | exact b01_r | exact bz_r | omega | (constructor <;> omega) | exact hM _ | exact hPo _ | exact hTa _ | exact hRo _) (by first | assumption | exact b01_r | exact bz_r | omega | (constructor <;> omega) | exact hM _ | exact hPo _ | exact hTa _ | exact hRo _) (by first | assumption | exact b01_r | exact bz_r | omega | (constructor <;> omega) | exact hM _ | exact hPo _ | exact hTa _ | exact hRo _) (by omega) (fun h_38 hB_38 hS_38 => ?_) | refine rm_iast6 (pc := 38) (j := 19 + 4 * C) dX11_opens_38 (by assumption) (by first | assumption | exact b01_r | exact bz_r | omega | (constructor <;> omega) | exact hM _ | exact hPo _ | exact hTa _ | exact hRo _) (by first | assumption | exact b01_r | exact bz_r | omega | (constructor <;> omega) | exact hM _ | exact hPo _ | exact hTa _ | exact hRo _) (by first | assumption | exact b01_r | exact bz_r | omega | (constructor <;> omega) | exact hM _ | exact hPo _ | exact hTa _ | exact hRo _) (by omega) (fun h_38 hB_38 hS_38 => ?_) | refine rm_iast5 (pc := 38) (j := 19 + 4 * C) dX11_opens_38 (by assumption) (by first | assumption | exact b01_r | exact bz_r | omega | (constructor <;> omega) | exact hM _ | exact hPo _ | exact hTa _ | exact hRo _) (by first | assumption | exact b01_r | exact bz_r | omega | (constructor <;> omega) | exact hM _ | exact hPo _ | exact hTa _ | exact hRo _) (by first | assumption | exact b01_r | exact bz_r | omega | (constructor <;> omega) | exact hM _ | exact hPo _ | exact hTa _ | exact hRo _) (by omega) (fun h_38 hB_38 hS_38 => ?_) | refine rm_iast1 (pc := 38) (j := 19 + 4 * C) dX11_opens_38 (by assumption) (by first | assumption | exact b01_r | exact bz_r | omega | (constructor <;> omega) | exact hM _ | exact hPo _ | exact hTa _ | exact hRo _) (by first | assumption | exact b01_r | exact bz_r | omega | (constructor <;> omega) | exact hM _ | exact hPo _ | exact hTa _ | exact hRo _) (by first | assumption | exact b01_r | exact bz_r | omega | (constructor <;> omega) | exact hM _ | exact hPo _ | exact hTa _ | exact hRo _) (by omega) (fun h_38 hB_38 hS_38 => ?_) | refine rm_iast2 (pc := 38) (j := 19 + 4 * C) dX11_opens_38 (by assumption) (by first | assumption | exact b01_r | exact bz_r | omega | (constructor <;> omega) | exact hM _ | exact hPo _ | exact hTa _ | exact hRo _) (by first | assumption | exact b01_r | exact bz_r | omega | (constructor <;> omega) | exact hM _ | exact hPo _ | exact hTa _ | exact hRo _) (by first | assumption | exact b01_r | exact bz_r | omega | (constructor <;> omega) | exact hM _ | exact hPo _ | exact hTa _ | exact hRo _) (by omega) (fun h_38 hB_38 hS_38 => ?_)
  refine r_aload_n (pc := 39) dX11_opens_39 rfl (by first | rfl | exact isRefV_rf _) ?_
  refine rm_getf (pc := 40) dX11_opens_40 fX11_11 (by assumption) rfl ?_
  refine r_iload_n (pc := 43) dX11_opens_43 rfl ?_
  refine rj_iconst (pc := 44) dX11_opens_44 ?_
  refine r_callS2 (pc := 45) dX11_opens_45 qX11_ofScope kX11_42 sX11_ofScope (Nat.le_of_ble_eq_true rfl) (m_ofScope d) (fun v_45 h_45 q_45 => ?_)
  obtain ⟨rfl, rfl⟩ := q_45
  refine r_aload_n (pc := 48) dX11_opens_48 rfl (by first | rfl | exact isRefV_rf _) ?_
  refine r_callV0 (pc := 49) dX11_opens_49 qX11_stamp kX11_126 vX11_stamp (by exact isM.gx (by assumption)) rfl rfl (Nat.le_of_ble_eq_true rfl) (m_stamp d hB_38) (fun v_49 h_49 q_49 => ?_)
  obtain ⟨rfl, hB_49, hS_49⟩ := q_49
  rw [updI_n (by omega), updI_n (by omega), updI_n (by omega)] at hB_49 ⊢
  first | refine rm_iast0 (pc := 52) (j := 20 + 4 * C) dX11_opens_52 (by assumption) (by first | assumption | exact b01_r | exact bz_r | omega | (constructor <;> omega) | exact hM _ | exact hPo _ | exact hTa _ | exact hRo _) (by first | assumption | exact b01_r | exact bz_r | omega | (constructor <;> omega) | exact hM _ | exact hPo _ | exact hTa _ | exact hRo _) (by first | assumption | exact b01_r | exact bz_r | omega | (constructor <;> omega) | exact hM _ | exact hPo _ | exact hTa _ | exact hRo _) (by omega) (fun h_52 hB_52 hS_52 => ?_) | refine rm_iast3 (pc := 52) (j := 20 + 4 * C) dX11_opens_52 (by assumption) (by first | assumption | exact b01_r | exact bz_r | omega | (constructor <;> omega) | exact hM _ | exact hPo _ | exact hTa _ | exact hRo _) (by first | assumption | exact b01_r | exact bz_r | omega | (constructor <;> omega) | exact hM _ | exact hPo _ | exact hTa _ | exact hRo _) (by first | assumption | exact b01_r | exact bz_r | omega | (constructor <;> omega) | exact hM _ | exact hPo _ | exact hTa _ | exact hRo _) (by omega) (fun h_52 hB_52 hS_52 => ?_) | refine rm_iast4 (pc := 52) (j := 20 + 4 * C) dX11_opens_52 (by assumption) (by first | assumption | exact b01_r | exact bz_r | omega | (constructor <;> omega) | exact hM _ | exact hPo _ | exact hTa _ | exact hRo _) (by first | assumption | exact b01_r | exact bz_r | omega | (constructor <;> omega) | exact hM _ | exact hPo _ | exact hTa _ | exact hRo _) (by first | assumption | exact b01_r | exact bz_r | omega | (constructor <;> omega) | exact hM _ | exact hPo _ | exact hTa _ | exact hRo _) (by omega) (fun h_52 hB_52 hS_52 => ?_) | refine rm_iast8 (pc := 52) (j := 20 + 4 * C) dX11_opens_52 (by assumption) (by first | assumption | exact b01_r | exact bz_r | omega | (constructor <;> omega) | exact hM _ | exact hPo _ | exact hTa _ | exact hRo _) (by first | assumption | exact b01_r | exact bz_r | omega | (constructor <;> omega) | exact hM _ | exact hPo _ | exact hTa _ | exact hRo _) (by first | assumption | exact b01_r | exact bz_r | omega | (constructor <;> omega) | exact hM _ | exact hPo _ | exact hTa _ | exact hRo _) (by omega) (fun h_52 hB_52 hS_52 => ?_) | refine rm_iast7 (pc := 52) (j := 20 + 4 * C) dX11_opens_52 (by assumption) (by first | assumption | exact b01_r | exact bz_r | omega | (constructor <;> omega) | exact hM _ | exact hPo _ | exact hTa _ | exact hRo _) (by first | assumption | exact b01_r | exact bz_r | omega | (constructor <;> omega) | exact hM _ | exact hPo _ | exact hTa _ | exact hRo _) (by first | assumption | exact b01_r | exact bz_r | omega | (constructor <;> omega) | exact hM _ | exact hPo _ | exact hTa _ | exact hRo _) (by omega) (fun h_52 hB_52 hS_52 => ?_) | refine rm_iast6 (pc := 52) (j := 20 + 4 * C) dX11_opens_52 (by assumption) (by first | assumption | exact b01_r | exact bz_r | omega | (constructor <;> omega) | exact hM _ | exact hPo _ | exact hTa _ | exact hRo _) (by first | assumption | exact b01_r | exact bz_r | omega | (constructor <;> omega) | exact hM _ | exact hPo _ | exact hTa _ | exact hRo _) (by first | assumption | exact b01_r | exact bz_r | omega | (constructor <;> omega) | exact hM _ | exact hPo _ | exact hTa _ | exact hRo _) (by omega) (fun h_52 hB_52 hS_52 => ?_) | refine rm_iast5 (pc := 52) (j := 20 + 4 * C) dX11_opens_52 (by assumption) (by first | assumption | exact b01_r | exact bz_r | omega | (constructor <;> omega) | exact hM _ | exact hPo _ | exact hTa _ | exact hRo _) (by first | assumption | exact b01_r | exact bz_r | omega | (constructor <;> omega) | exact hM _ | exact hPo _ | exact hTa _ | exact hRo _) (by first | assumption | exact b01_r | exact bz_r | omega | (constructor <;> omega) | exact hM _ | exact hPo _ | exact hTa _ | exact hRo _) (by omega) (fun h_52 hB_52 hS_52 => ?_) | refine rm_iast1 (pc := 52) (j := 20 + 4 * C) dX11_opens_52 (by assumption) (by first | assumption | exact b01_r | exact bz_r | omega | (constructor <;> omega) | exact hM _ | exact hPo _ | exact hTa _ | exact hRo _) (by first | assumption | exact b01_r | exact bz_r | omega | (constructor <;> omega) | exact hM _ | exact hPo _ | exact hTa _ | exact hRo _) (by first | assumption | exact b01_r | exact bz_r | omega | (constructor <;> omega) | exact hM _ | exact hPo _ | exact hTa _ | exact hRo _) (by omega) (fun h_52 hB_52 hS_52 => ?_) | refine rm_iast2 (pc := 52) (j := 20 + 4 * C) dX11_opens_52 (by assumption) (by first | assumption | exact b01_r | exact bz_r | omega | (constructor <;> omega) | exact hM _ | exact hPo _ | exact hTa _ | exact hRo _) (by first | assumption | exact b01_r | exact bz_r | omega | (constructor <;> omega) | exact hM _ | exact hPo _ | exact hTa _ | exact hRo _) (by first | assumption | exact b01_r | exact bz_r | omega | (constructor <;> omega) | exact hM _ | exact hPo _ | exact hTa _ | exact hRo _) (by omega) (fun h_52 hB_52 hS_52 => ?_)
  refine r_aload_n (pc := 53) dX11_opens_53 rfl (by first | rfl | exact isRefV_rf _) ?_
  refine rm_getf (pc := 54) dX11_opens_54 fX11_11 (by assumption) rfl ?_
  refine r_iload_n (pc := 57) dX11_opens_57 rfl ?_
  refine rj_iconst (pc := 58) dX11_opens_58 ?_
  refine r_callS2 (pc := 59) dX11_opens_59 qX11_ofScope kX11_42 sX11_ofScope (Nat.le_of_ble_eq_true rfl) (m_ofScope d) (fun v_59 h_59 q_59 => ?_)
  obtain ⟨rfl, rfl⟩ := q_59
  refine r_iload_n (pc := 62) dX11_opens_62 rfl ?_
  first | refine rm_iast0 (pc := 63) (j := 21 + 4 * C) dX11_opens_63 (by assumption) (by first | assumption | exact b01_r | exact bz_r | omega | (constructor <;> omega) | exact hM _ | exact hPo _ | exact hTa _ | exact hRo _) (by first | assumption | exact b01_r | exact bz_r | omega | (constructor <;> omega) | exact hM _ | exact hPo _ | exact hTa _ | exact hRo _) (by first | assumption | exact b01_r | exact bz_r | omega | (constructor <;> omega) | exact hM _ | exact hPo _ | exact hTa _ | exact hRo _) (by omega) (fun h_63 hB_63 hS_63 => ?_) | refine rm_iast3 (pc := 63) (j := 21 + 4 * C) dX11_opens_63 (by assumption) (by first | assumption | exact b01_r | exact bz_r | omega | (constructor <;> omega) | exact hM _ | exact hPo _ | exact hTa _ | exact hRo _) (by first | assumption | exact b01_r | exact bz_r | omega | (constructor <;> omega) | exact hM _ | exact hPo _ | exact hTa _ | exact hRo _) (by first | assumption | exact b01_r | exact bz_r | omega | (constructor <;> omega) | exact hM _ | exact hPo _ | exact hTa _ | exact hRo _) (by omega) (fun h_63 hB_63 hS_63 => ?_) | refine rm_iast4 (pc := 63) (j := 21 + 4 * C) dX11_opens_63 (by assumption) (by first | assumption | exact b01_r | exact bz_r | omega | (constructor <;> omega) | exact hM _ | exact hPo _ | exact hTa _ | exact hRo _) (by first | assumption | exact b01_r | exact bz_r | omega | (constructor <;> omega) | exact hM _ | exact hPo _ | exact hTa _ | exact hRo _) (by first | assumption | exact b01_r | exact bz_r | omega | (constructor <;> omega) | exact hM _ | exact hPo _ | exact hTa _ | exact hRo _) (by omega) (fun h_63 hB_63 hS_63 => ?_) | refine rm_iast8 (pc := 63) (j := 21 + 4 * C) dX11_opens_63 (by assumption) (by first | assumption | exact b01_r | exact bz_r | omega | (constructor <;> omega) | exact hM _ | exact hPo _ | exact hTa _ | exact hRo _) (by first | assumption | exact b01_r | exact bz_r | omega | (constructor <;> omega) | exact hM _ | exact hPo _ | exact hTa _ | exact hRo _) (by first | assumption | exact b01_r | exact bz_r | omega | (constructor <;> omega) | exact hM _ | exact hPo _ | exact hTa _ | exact hRo _) (by omega) (fun h_63 hB_63 hS_63 => ?_) | refine rm_iast7 (pc := 63) (j := 21 + 4 * C) dX11_opens_63 (by assumption) (by first | assumption | exact b01_r | exact bz_r | omega | (constructor <;> omega) | exact hM _ | exact hPo _ | exact hTa _ | exact hRo _) (by first | assumption | exact b01_r | exact bz_r | omega | (constructor <;> omega) | exact hM _ | exact hPo _ | exact hTa _ | exact hRo _) (by first | assumption | exact b01_r | exact bz_r | omega | (constructor <;> omega) | exact hM _ | exact hPo _ | exact hTa _ | exact hRo _) (by omega) (fun h_63 hB_63 hS_63 => ?_) | refine rm_iast6 (pc := 63) (j := 21 + 4 * C) dX11_opens_63 (by assumption) (by first | assumption | exact b01_r | exact bz_r | omega | (constructor <;> omega) | exact hM _ | exact hPo _ | exact hTa _ | exact hRo _) (by first | assumption | exact b01_r | exact bz_r | omega | (constructor <;> omega) | exact hM _ | exact hPo _ | exact hTa _ | exact hRo _) (by first | assumption | exact b01_r | exact bz_r | omega | (constructor <;> omega) | exact hM _ | exact hPo _ | exact hTa _ | exact hRo _) (by omega) (fun h_63 hB_63 hS_63 => ?_) | refine rm_iast5 (pc := 63) (j := 21 + 4 * C) dX11_opens_63 (by assumption) (by first | assumption | exact b01_r | exact bz_r | omega | (constructor <;> omega) | exact hM _ | exact hPo _ | exact hTa _ | exact hRo _) (by first | assumption | exact b01_r | exact bz_r | omega | (constructor <;> omega) | exact hM _ | exact hPo _ | exact hTa _ | exact hRo _) (by first | assumption | exact b01_r | exact bz_r | omega | (constructor <;> omega) | exact hM _ | exact hPo _ | exact hTa _ | exact hRo _) (by omega) (fun h_63 hB_63 hS_63 => ?_) | refine rm_iast1 (pc := 63) (j := 21 + 4 * C) dX11_opens_63 (by assumption) (by first | assumption | exact b01_r | exact bz_r | omega | (constructor <;> omega) | exact hM _ | exact hPo _ | exact hTa _ | exact hRo _) (by first | assumption | exact b01_r | exact bz_r | omega | (constructor <;> omega) | exact hM _ | exact hPo _ | exact hTa _ | exact hRo _) (by first | assumption | exact b01_r | exact bz_r | omega | (constructor <;> omega) | exact hM _ | exact hPo _ | exact hTa _ | exact hRo _) (by omega) (fun h_63 hB_63 hS_63 => ?_) | refine rm_iast2 (pc := 63) (j := 21 + 4 * C) dX11_opens_63 (by assumption) (by first | assumption | exact b01_r | exact bz_r | omega | (constructor <;> omega) | exact hM _ | exact hPo _ | exact hTa _ | exact hRo _) (by first | assumption | exact b01_r | exact bz_r | omega | (constructor <;> omega) | exact hM _ | exact hPo _ | exact hTa _ | exact hRo _) (by first | assumption | exact b01_r | exact bz_r | omega | (constructor <;> omega) | exact hM _ | exact hPo _ | exact hTa _ | exact hRo _) (by omega) (fun h_63 hB_63 hS_63 => ?_)
  refine r_iload_n (pc := 64) dX11_opens_64 rfl ?_
  refine r_ireturn (pc := 65) .int dX11_opens_65 rfl (by first | rfl | assumption) ?_
  exact ⟨rfl, hB_63, (((((hS_16.trans hS_27).trans hS_38).trans hS_49).trans hS_52).trans hS_63)⟩
end mg_23
section mg_24
/-! ===== contracts of the reference: reading texts ===== -/
/-- place, fault, figure, steps, open ( -/
abbrev PS : Type := Int × Int × Int × Int × Int
def hereF (sr : Nat → Int) (len a : Int) : Int := if a < len then sr a.toNat else -1
def failF (p : Int) (q : PS) : PS := (q.1, if q.2.1 < 0 then p else q.2.1, q.2.2)
def advF (q : PS) : PS := (q.1 + 1, q.2)
def psOk (len : Int) (q : PS) : Prop := 0 ≤ q.1 ∧ q.1 ≤ len ∧ -1 ≤ q.2.1 ∧ q.2.1 ≤ len ∧ 0 ≤ q.2.2.1 ∧ q.2.2.1 ≤ 99999 ∧ 0 ≤ q.2.2.2.2 ∧ q.2.2.2.2 ≤ q.1 + 90
/-- the text that is read: which row, its bytes, its end -/
def txOk (s : Nat) (sr pool tape : Nat → Int) (len : Int) : Prop := ((s = 4 ∧ sr = tape ∧ len ≤ 120) ∨ (s = 3 ∧ sr = pool ∧ len ≤ 12342)) ∧ 0 ≤ len ∧ ∀ i, 0 ≤ sr i ∧ sr i ≤ 127
theorem here_r {s : Nat} {sr pool tape : Nat → Int} {len : Int} (h : txOk s sr pool tape len) (a : Int) : -1 ≤ hereF sr len a ∧ hereF sr len a ≤ 127 := by
  have := h.2.2 a.toNat
  unfold hereF
  split <;> omega
def isLt (c : Int) : Prop := 97 ≤ c ∧ c ≤ 122
set_option maxHeartbeats 4000000 in
set_option maxRecDepth 100000 in
theorem m_here {G : mG} {l : Launch} (d : Nat) {h : mH} {x s : Nat} {f4 f6 f9 f14 f16 f18 : Int} {q : PS} {m kp was pool tape pln pap rwd rw sr : Nat → Int} (hB : isM h x (mFs x f4 f6 q.1 f9 q.2.1 q.2.2.1 q.2.2.2.1 q.2.2.2.2 f14 f16 f18 s) m kp was pool tape pln pap rwd rw) (hT : txOk s sr pool tape f9) (hq : psOk f9 q) : RUNM G l (d) mX11_here [.ref x] h (fun v h' => v = some (.int (J (hereF sr f9 q.1))) ∧ h' = h) := by
  dsimp only [mFs] at hB
  obtain ⟨hq1, hq2, hq3, hq4, hq5, hq6, hq7, hq8⟩ := id hq
  obtain ⟨hs, hl0, hby⟩ := id hT
  rcases hs with ⟨rfl, rfl, h120⟩ | ⟨rfl, rfl, h120⟩
  · refine RUNM.of (by decide +kernel) (Nat.le_of_ble_eq_true rfl) ?_
    refine r_aload_n (pc := 0) dX11_here_0 rfl (by first | rfl | exact isRefV_rf _) ?_
    refine rm_getf (pc := 1) dX11_here_1 fX11_65 (by assumption) rfl ?_
    refine r_aload_n (pc := 4) dX11_here_4 rfl (by first | rfl | exact isRefV_rf _) ?_
    refine rm_getf (pc := 5) dX11_here_5 fX11_68 (by assumption) rfl ?_
    refine rj_icmp_ge (pc := 8) (tgt := 23) dX11_here_8 (by decide) (by first | assumption | exact b01_r | exact bz_r | omega | (constructor <;> omega) | exact hM _ | exact hPo _ | exact hTa _ | exact hRo _) (by first | assumption | exact b01_r | exact bz_r | omega | (constructor <;> omega) | exact hM _ | exact hPo _ | exact hTa _ | exact hRo _) (fun c_8 => ?_) (fun c_8 => ?_)
    · refine rj_iconst (pc := 23) dX11_here_23 ?_
      refine r_ireturn (pc := 24) .int dX11_here_24 rfl (by first | rfl | assumption) ?_
      exact ⟨by unfold hereF; first | rw [if_pos (by omega)] | rw [if_neg (by omega)], rfl⟩
    · refine r_aload_n (pc := 11) dX11_here_11 rfl (by first | rfl | exact isRefV_rf _) ?_
      refine rm_getf (pc := 12) dX11_here_12 fX11_27 (by assumption) rfl ?_
      refine r_aload_n (pc := 15) dX11_here_15 rfl (by first | rfl | exact isRefV_rf _) ?_
      refine rm_getf (pc := 16) dX11_here_16 fX11_65 (by assumption) rfl ?_
      refine rj_iald (pc := 19) dX11_here_19 (by first | exact isM.g0 (by assumption) | exact isM.g3 (by assumption) | exact isM.g4 (by assumption) | exact isM.g8 (by assumption) | exact isM.g7 (by assumption) | exact isM.g6 (by assumption) | exact isM.g5 (by assumption) | exact isM.g1 (by assumption) | exact isM.g2 (by assumption)) (by first | assumption | exact b01_r | exact bz_r | omega | (constructor <;> omega) | exact hM _ | exact hPo _ | exact hTa _ | exact hRo _) (by first | assumption | exact b01_r | exact bz_r | omega | (constructor <;> omega) | exact hM _ | exact hPo _ | exact hTa _ | exact hRo _) (by first | assumption | exact b01_r | exact bz_r | omega | (constructor <;> omega) | exact hM _ | exact hPo _ | exact hTa _ | exact hRo _) rfl ?_
      refine r_goto (pc := 20) (tgt := 24) dX11_here_20 (by decide) ?_
      refine r_ireturn (pc := 24) .int dX11_here_24 rfl (by first | rfl | assumption) ?_
      exact ⟨by unfold hereF; first | rw [if_pos (by omega)] | rw [if_neg (by omega)], rfl⟩
  · refine RUNM.of (by decide +kernel) (Nat.le_of_ble_eq_true rfl) ?_
    refine r_aload_n (pc := 0) dX11_here_0 rfl (by first | rfl | exact isRefV_rf _) ?_
    refine rm_getf (pc := 1) dX11_here_1 fX11_65 (by assumption) rfl ?_
    refine r_aload_n (pc := 4) dX11_here_4 rfl (by first | rfl | exact isRefV_rf _) ?_
    refine rm_getf (pc := 5) dX11_here_5 fX11_68 (by assumption) rfl ?_
    refine rj_icmp_ge (pc := 8) (tgt := 23) dX11_here_8 (by decide) (by first | assumption | exact b01_r | exact bz_r | omega | (constructor <;> omega) | exact hM _ | exact hPo _ | exact hTa _ | exact hRo _) (by first | assumption | exact b01_r | exact bz_r | omega | (constructor <;> omega) | exact hM _ | exact hPo _ | exact hTa _ | exact hRo _) (fun c_8 => ?_) (fun c_8 => ?_)
    · refine rj_iconst (pc := 23) dX11_here_23 ?_
      refine r_ireturn (pc := 24) .int dX11_here_24 rfl (by first | rfl | assumption) ?_
      exact ⟨by unfold hereF; first | rw [if_pos (by omega)] | rw [if_neg (by omega)], rfl⟩
    · refine r_aload_n (pc := 11) dX11_here_11 rfl (by first | rfl | exact isRefV_rf _) ?_
      refine rm_getf (pc := 12) dX11_here_12 fX11_27 (by assumption) rfl ?_
      refine r_aload_n (pc := 15) dX11_here_15 rfl (by first | rfl | exact isRefV_rf _) ?_
      refine rm_getf (pc := 16) dX11_here_16 fX11_65 (by assumption) rfl ?_
      refine rj_iald (pc := 19) dX11_here_19 (by first | exact isM.g0 (by assumption) | exact isM.g3 (by assumption) | exact isM.g4 (by assumption) | exact isM.g8 (by assumption) | exact isM.g7 (by assumption) | exact isM.g6 (by assumption) | exact isM.g5 (by assumption) | exact isM.g1 (by assumption) | exact isM.g2 (by assumption)) (by first | assumption | exact b01_r | exact bz_r | omega | (constructor <;> omega) | exact hM _ | exact hPo _ | exact hTa _ | exact hRo _) (by first | assumption | exact b01_r | exact bz_r | omega | (constructor <;> omega) | exact hM _ | exact hPo _ | exact hTa _ | exact hRo _) (by first | assumption | exact b01_r | exact bz_r | omega | (constructor <;> omega) | exact hM _ | exact hPo _ | exact hTa _ | exact hRo _) rfl ?_
      refine r_goto (pc := 20) (tgt := 24) dX11_here_20 (by decide) ?_
      refine r_ireturn (pc := 24) .int dX11_here_24 rfl (by first | rfl | assumption) ?_
      exact ⟨by unfold hereF; first | rw [if_pos (by omega)] | rw [if_neg (by omega)], rfl⟩
set_option maxHeartbeats 4000000 in
set_option maxRecDepth 100000 in
theorem m_fails {G : mG} {l : Launch} (d : Nat) {h : mH} {x s : Nat} {f4 f6 f9 f14 f16 f18 : Int} {q : PS} {m kp was pool tape pln pap rwd rw sr : Nat → Int} (hB : isM h x (mFs x f4 f6 q.1 f9 q.2.1 q.2.2.1 q.2.2.2.1 q.2.2.2.2 f14 f16 f18 s) m kp was pool tape pln pap rwd rw) (hT : txOk s sr pool tape f9) (hq : psOk f9 q) {p : Int} : RUNM G l (d) mX11_fails [.ref x, .int (J p)] h (fun v h' => v = some (.int (J 0)) ∧ isM h' x (mFs x f4 f6 (failF p q).1 f9 (failF p q).2.1 (failF p q).2.2.1 (failF p q).2.2.2.1 (failF p q).2.2.2.2 f14 f16 f18 s) m kp was pool tape pln pap rwd rw ∧ Same (mBlk x) h h') := by
  dsimp only [mFs] at hB
  refine RUNM.of (by decide +kernel) (Nat.le_of_ble_eq_true rfl) ?_
  obtain ⟨hq1, hq2, hq3, hq4, hq5, hq6, hq7, hq8⟩ := id hq
  obtain ⟨hs, hl0, hby⟩ := id hT
  refine r_aload_n (pc := 0) dX11_fails_0 rfl (by first | rfl | exact isRefV_rf _) ?_
  refine rm_getf (pc := 1) dX11_fails_1 fX11_71 (by assumption) rfl ?_
  refine rj_if_ge (pc := 4) (tgt := 12) dX11_fails_4 (by decide) (by first | assumption | exact b01_r | exact bz_r | omega | (constructor <;> omega) | exact hM _ | exact hPo _ | exact hTa _ | exact hRo _) (fun c_4 => ?_) (fun c_4 => ?_)
  · refine rj_iconst (pc := 12) dX11_fails_12 ?_
    refine r_ireturn (pc := 13) .boolean dX11_fails_13 rfl (by first | exact nar_J0 | exact nar_J1 | exact nar_b01 | exact nar_bz) ?_
    first
    | exact ⟨rfl, by unfold failF; rw [if_neg (by omega)]; exact hB, Same.refl⟩
    | exact ⟨rfl, by unfold failF; rw [if_pos (by omega)]; exact hB_9, hS_9⟩
  · refine r_aload_n (pc := 7) dX11_fails_7 rfl (by first | rfl | exact isRefV_rf _) ?_
    refine r_iload_n (pc := 8) dX11_fails_8 rfl ?_
    refine rm_putf (pc := 9) dX11_fails_9 fX11_71 (by assumption) rfl rfl (Nat.le_of_ble_eq_true rfl) (fun h_9 hB_9 hS_9 => ?_)
    dsimp only [List.set, mFs] at hB_9
    refine rj_iconst (pc := 12) dX11_fails_12 ?_
    refine r_ireturn (pc := 13) .boolean dX11_fails_13 rfl (by first | exact nar_J0 | exact nar_J1 | exact nar_b01 | exact nar_bz) ?_
    first
    | exact ⟨rfl, by unfold failF; rw [if_neg (by omega)]; exact hB, Same.refl⟩
    | exact ⟨rfl, by unfold failF; rw [if_pos (by omega)]; exact hB_9, hS_9⟩
theorem here_lt {sr : Nat → Int} {len a : Int} (h : hereF sr len a ≠ -1) : a < len := by
  unfold hereF at h
  split at h
  · assumption
  · exact absurd rfl h
theorem fail_ok {len p : Int} {q : PS} (hq : psOk len q) (h0 : 0 ≤ p) (h1 : p ≤ len) : psOk len (failF p q) := by
  obtain ⟨a, b, c, d, e, f, g, i⟩ := hq
  unfold failF
  refine ⟨a, b, ?_, ?_, e, f, g, i⟩ <;> (dsimp only; split <;> omega)
theorem adv_ok {len : Int} {q : PS} (hq : psOk len q) (h1 : q.1 < len) : psOk len (advF q) := by
  obtain ⟨a, b, c, d, e, f, g, i⟩ := hq
  exact ⟨by show 0 ≤ q.1 + 1; omega, by show q.1 + 1 ≤ len; omega, c, d, e, f, g, by show q.2.2.2.2 ≤ q.1 + 1 + 90; omega⟩
def signF (sr : Nat → Int) (len c : Int) (q : PS) : PS := if hereF sr len q.1 = c then advF q else failF q.1 q
theorem sign_ok {sr : Nat → Int} {len c : Int} {q : PS} (hq : psOk len q) (hc : c ≠ -1) : psOk len (signF sr len c q) := by
  unfold signF
  split
  · rename_i h
    exact adv_ok hq (here_lt (sr := sr) (by rw [h]; exact hc))
  · exact fail_ok hq hq.1 hq.2.1
set_option maxHeartbeats 4000000 in
set_option maxRecDepth 100000 in
theorem m_isSign {G : mG} {l : Launch} (d : Nat) {h : mH} {x s : Nat} {f4 f6 f9 f14 f16 f18 : Int} {q : PS} {m kp was pool tape pln pap rwd rw sr : Nat → Int} (hB : isM h x (mFs x f4 f6 q.1 f9 q.2.1 q.2.2.1 q.2.2.2.1 q.2.2.2.2 f14 f16 f18 s) m kp was pool tape pln pap rwd rw) (hT : txOk s sr pool tape f9) (hq : psOk f9 q) {c : Int} (hc : InR c) : RUNM G l (d + 1) mX11_isSign [.ref x, .int (J c)] h (fun v h' => v = some (.int (J (b01 (hereF sr f9 q.1 = c)))) ∧ isM h' x (mFs x f4 f6 (signF sr f9 c q).1 f9 (signF sr f9 c q).2.1 (signF sr f9 c q).2.2.1 (signF sr f9 c q).2.2.2.1 (signF sr f9 c q).2.2.2.2 f14 f16 f18 s) m kp was pool tape pln pap rwd rw ∧ Same (mBlk x) h h') := by
  dsimp only [mFs] at hB
  refine RUNM.of (by decide +kernel) (Nat.le_of_ble_eq_true rfl) ?_
  have hB0 := hB
  obtain ⟨hq1, hq2, hq3, hq4, hq5, hq6, hq7, hq8⟩ := id hq
  obtain ⟨hs, hl0, hby⟩ := id hT
  have hh := here_r hT q.1
  refine r_aload_n (pc := 0) dX11_isSign_0 rfl (by first | rfl | exact isRefV_rf _) ?_
  refine r_callV0 (pc := 1) dX11_isSign_1 qX11_here kX11_74 vX11_here (by exact isM.gx (by assumption)) rfl rfl (Nat.le_of_ble_eq_true rfl) (m_here d hB0 hT hq) (fun v_1 h_1 q_1 => ?_)
  obtain ⟨rfl, rfl⟩ := q_1
  refine r_iload_n (pc := 4) dX11_isSign_4 rfl ?_
  refine rj_icmp_eq (pc := 5) (tgt := 17) dX11_isSign_5 (by decide) (by first | assumption | exact b01_r | exact bz_r | omega | (constructor <;> omega) | exact hM _ | exact hPo _ | exact hTa _ | exact hRo _) (by first | assumption | exact b01_r | exact bz_r | omega | (constructor <;> omega) | exact hM _ | exact hPo _ | exact hTa _ | exact hRo _) (fun c_5 => ?_) (fun c_5 => ?_)
  · refine r_aload_n (pc := 17) dX11_isSign_17 rfl (by first | rfl | exact isRefV_rf _) ?_
    refine r_dup (pc := 18) dX11_isSign_18 (by first | rfl | (cases ‹Option Nat› <;> rfl)) ?_
    refine rm_getf (pc := 19) dX11_isSign_19 fX11_65 (by assumption) rfl ?_
    refine rj_iconst (pc := 22) dX11_isSign_22 ?_
    refine rj_iadd (pc := 23) dX11_isSign_23 ?_
    refine rm_putf (pc := 24) dX11_isSign_24 fX11_65 (by assumption) rfl rfl (Nat.le_of_ble_eq_true rfl) (fun h_24 hB_24 hS_24 => ?_)
    dsimp only [List.set, mFs] at hB_24
    refine rj_iconst (pc := 27) dX11_isSign_27 ?_
    refine r_ireturn (pc := 28) .boolean dX11_isSign_28 rfl (by first | exact nar_J0 | exact nar_J1 | exact nar_b01 | exact nar_bz) ?_
    first
    | exact ⟨vf c_5, by unfold signF; rw [if_neg c_5]; exact hB_13, hS_13⟩
    | exact ⟨vt c_5, by unfold signF; rw [if_pos c_5]; exact hB_24, hS_24⟩
  · refine r_aload_n (pc := 8) dX11_isSign_8 rfl (by first | rfl | exact isRefV_rf _) ?_
    refine r_aload_n (pc := 9) dX11_isSign_9 rfl (by first | rfl | exact isRefV_rf _) ?_
    refine rm_getf (pc := 10) dX11_isSign_10 fX11_65 (by assumption) rfl ?_
    refine r_callV1 (pc := 13) dX11_isSign_13 qX11_fails kX11_78 vX11_fails (by exact isM.gx (by assumption)) rfl rfl (Nat.le_of_ble_eq_true rfl) (m_fails d hB0 hT hq) (fun v_13 h_13 q_13 => ?_)
    obtain ⟨rfl, hB_13, hS_13⟩ := q_13
    refine r_ireturn (pc := 16) .boolean dX11_isSign_16 rfl (by first | exact nar_J0 | exact nar_J1 | exact nar_b01 | exact nar_bz) ?_
    first
    | exact ⟨vf c_5, by unfold signF; rw [if_neg c_5]; exact hB_13, hS_13⟩
    | exact ⟨vt c_5, by unfold signF; rw [if_pos c_5]; exact hB_24, hS_24⟩
def bnd : Nat → Int
  | 0 => 99999
  | 1 => 9999
  | 2 => 999
  | 3 => 99
  | 4 => 9
  | _ => 0
theorem bnd_s : ∀ n, n < 5 → 10 * bnd (n + 1) + 9 ≤ bnd n := by decide
theorem bnd_0 : ∀ n, 0 ≤ bnd n ∧ bnd n ≤ 99999 := fun n => by unfold bnd; split <;> decide
def numL (sr : Nat → Int) (len : Int) : Nat → PS → PS
  | 0, q => q
  | n + 1, q => if 48 ≤ hereF sr len q.1 ∧ hereF sr len q.1 ≤ 57 then numL sr len n (q.1 + 1, q.2.1, 10 * q.2.2.1 + hereF sr len q.1 - 48, q.2.2.2) else q
theorem numL_ok {sr : Nat → Int} {len : Int} : ∀ (n : Nat) (q : PS), n ≤ 5 → psOk len q → q.2.2.1 ≤ bnd n → psOk len (numL sr len n q)
  | 0, q, _, hq, _ => hq
  | n + 1, q, hn, hq, hf => by
    unfold numL
    split
    · rename_i h
      have hl := here_lt (sr := sr) (len := len) (a := q.1) (by omega)
      have hb := bnd_s n (by omega)
      have h0 := bnd_0 n
      obtain ⟨a, b, c, d, e, f, g, i⟩ := hq
      refine numL_ok n _ (by omega) ⟨?_, ?_, c, d, ?_, ?_, g, ?_⟩ ?_ <;> dsimp only <;> omega
    · exact hq
def finF (b l m : Int) (q : PS) : PS := if l ≤ q.2.2.1 ∧ q.2.2.1 ≤ m then q else failF b q
def numberF (sr : Nat → Int) (len : Int) (n : Nat) (l m : Int) (q : PS) : PS := if 48 ≤ hereF sr len q.1 ∧ hereF sr len q.1 ≤ 57 then finF q.1 l m (numL sr len n (q.1, q.2.1, 0, q.2.2.2)) else failF q.1 q
abbrev numberB (sr : Nat → Int) (len : Int) (n : Nat) (l m : Int) (q : PS) : Prop := (48 ≤ hereF sr len q.1 ∧ hereF sr len q.1 ≤ 57) ∧ l ≤ (numL sr len n (q.1, q.2.1, 0, q.2.2.2)).2.2.1 ∧ (numL sr len n (q.1, q.2.1, 0, q.2.2.2)).2.2.1 ≤ m
set_option maxHeartbeats 4000000 in
set_option maxRecDepth 100000 in
theorem L_number {G : mG} {l : Launch} (d : Nat) {x s : Nat} {f4 f6 f9 f14 f16 f18 : Int} {m kp was pool tape pln pap rwd rw sr : Nat → Int} (hT : txOk s sr pool tape f9) {F : Nat} (hF : F ≤ 5) {lo hi b : Int} (hlo : InR lo) (hhi : InR hi) (hb0 : 0 ≤ b) (hb1 : b ≤ f9) : ∀ (n k : Nat) (q : PS) (h : mH), isM h x (mFs x f4 f6 q.1 f9 q.2.1 q.2.2.1 q.2.2.2.1 q.2.2.2.2 f14 f16 f18 s) m kp was pool tape pln pap rwd rw → psOk f9 q → k + n = F → q.2.2.1 ≤ bnd n → RUN G l (d + 3) mX11_isNumber 37 [some (.ref x), some (.int (J (F : Int))), some (.int (J lo)), some (.int (J hi)), some (.int (J b)), some (.int (J (k : Int)))] [] h (fun v h' => v = some (.int (J (b01 (lo ≤ (numL sr f9 n q).2.2.1 ∧ (numL sr f9 n q).2.2.1 ≤ hi)))) ∧ isM h' x (mFs x f4 f6 (finF b lo hi (numL sr f9 n q)).1 f9 (finF b lo hi (numL sr f9 n q)).2.1 (finF b lo hi (numL sr f9 n q)).2.2.1 (finF b lo hi (numL sr f9 n q)).2.2.2.1 (finF b lo hi (numL sr f9 n q)).2.2.2.2 f14 f16 f18 s) m kp was pool tape pln pap rwd rw ∧ Same (mBlk x) h h') := by
  obtain ⟨hs, hl0, hby⟩ := id hT
  have h97 : f9 ≤ 12342 := by rcases hs with h | h <;> omega
  intro n
  induction n with
  | zero =>
    intro k q h hB hq hk hf
    have hB0 := hB
    dsimp only [mFs] at hB
    obtain ⟨hq1, hq2, hq3, hq4, hq5, hq6, hq7, hq8⟩ := id hq
    have hh := here_r hT q.1
    refine r_iload (pc := 37) dX11_isNumber_37 rfl ?_
    refine r_iload_n (pc := 39) dX11_isNumber_39 rfl ?_
    refine rj_icmp_ge (pc := 40) (tgt := 92) dX11_isNumber_40 (by decide) (by first | assumption | exact b01_r | exact bz_r | omega | (constructor <;> omega) | exact hM _ | exact hPo _ | exact hTa _ | exact hRo _) (by first | assumption | exact b01_r | exact bz_r | omega | (constructor <;> omega) | exact hM _ | exact hPo _ | exact hTa _ | exact hRo _) (fun c_40 => ?_) (fun c_40 => ?_)
    · rw [show numL sr f9 0 q = q from rfl]
      refine r_aload_n (pc := 92) dX11_isNumber_92 rfl (by first | rfl | exact isRefV_rf _) ?_
      refine rm_getf (pc := 93) dX11_isNumber_93 fX11_81 (by assumption) rfl ?_
      refine r_iload_n (pc := 96) dX11_isNumber_96 rfl ?_
      refine r_iload_n (pc := 97) dX11_isNumber_97 rfl ?_
      refine r_callS3 (pc := 98) dX11_isNumber_98 qX11_isIn kX11_46 sX11_isIn (Nat.le_of_ble_eq_true rfl) (m_isIn (d + 2) ⟨by omega, by omega⟩ hlo hhi) (fun v_98 h_98 q_98 => ?_)
      obtain ⟨rfl, rfl⟩ := q_98
      refine rj_if_ne (pc := 101) (tgt := 113) dX11_isNumber_101 (by decide) (by first | assumption | exact b01_r | exact bz_r | omega | (constructor <;> omega) | exact hM _ | exact hPo _ | exact hTa _ | exact hRo _) (fun c_101 => ?_) (fun c_101 => ?_)
      · try simp only [b01_0, bz_0, Classical.not_not] at c_101
        refine rj_iconst (pc := 113) dX11_isNumber_113 ?_
        refine r_goto (pc := 114) (tgt := 118) dX11_isNumber_114 (by decide) ?_
        refine r_ireturn (pc := 118) .boolean dX11_isNumber_118 rfl (by first | exact nar_J0 | exact nar_J1 | exact nar_b01 | exact nar_bz) ?_
        first
        | exact ⟨vt c_101, by unfold finF; rw [if_pos c_101]; exact hB0, Same.refl⟩
        | exact ⟨vf c_101, by unfold finF; rw [if_neg c_101]; exact hB_107, hS_107⟩
        | exact absurd trivial c_110
      · try simp only [b01_0, bz_0, Classical.not_not] at c_101
        refine r_aload_n (pc := 104) dX11_isNumber_104 rfl (by first | rfl | exact isRefV_rf _) ?_
        refine r_iload (pc := 105) dX11_isNumber_105 rfl ?_
        refine r_callV1 (pc := 107) dX11_isNumber_107 qX11_fails kX11_78 vX11_fails (by exact isM.gx (by assumption)) rfl rfl (Nat.le_of_ble_eq_true rfl) (m_fails (d + 2) hB0 hT hq) (fun v_107 h_107 q_107 => ?_)
        obtain ⟨rfl, hB_107, hS_107⟩ := q_107
        refine rj_if_eq (pc := 110) (tgt := 117) dX11_isNumber_110 (by decide) (by first | assumption | exact b01_r | exact bz_r | omega | (constructor <;> omega) | exact hM _ | exact hPo _ | exact hTa _ | exact hRo _) (fun c_110 => ?_) (fun c_110 => ?_)
        · try simp only [b01_0, bz_0, Classical.not_not] at c_110
          refine rj_iconst (pc := 117) dX11_isNumber_117 ?_
          refine r_ireturn (pc := 118) .boolean dX11_isNumber_118 rfl (by first | exact nar_J0 | exact nar_J1 | exact nar_b01 | exact nar_bz) ?_
          first
          | exact ⟨vt c_101, by unfold finF; rw [if_pos c_101]; exact hB0, Same.refl⟩
          | exact ⟨vf c_101, by unfold finF; rw [if_neg c_101]; exact hB_107, hS_107⟩
          | exact absurd trivial c_110
        · try simp only [b01_0, bz_0, Classical.not_not] at c_110
          refine rj_iconst (pc := 113) dX11_isNumber_113 ?_
          refine r_goto (pc := 114) (tgt := 118) dX11_isNumber_114 (by decide) ?_
          refine r_ireturn (pc := 118) .boolean dX11_isNumber_118 rfl (by first | exact nar_J0 | exact nar_J1 | exact nar_b01 | exact nar_bz) ?_
          first
          | exact ⟨vt c_101, by unfold finF; rw [if_pos c_101]; exact hB0, Same.refl⟩
          | exact ⟨vf c_101, by unfold finF; rw [if_neg c_101]; exact hB_107, hS_107⟩
          | exact absurd trivial c_110
    · exfalso; omega
  | succ n ih =>
    intro k q h hB hq hk hf
    have hB0 := hB
    dsimp only [mFs] at hB
    obtain ⟨hq1, hq2, hq3, hq4, hq5, hq6, hq7, hq8⟩ := id hq
    have hh := here_r hT q.1
    refine r_iload (pc := 37) dX11_isNumber_37 rfl ?_
    refine r_iload_n (pc := 39) dX11_isNumber_39 rfl ?_
    refine rj_icmp_ge (pc := 40) (tgt := 92) dX11_isNumber_40 (by decide) (by first | assumption | exact b01_r | exact bz_r | omega | (constructor <;> omega) | exact hM _ | exact hPo _ | exact hTa _ | exact hRo _) (by first | assumption | exact b01_r | exact bz_r | omega | (constructor <;> omega) | exact hM _ | exact hPo _ | exact hTa _ | exact hRo _) (fun c_40 => ?_) (fun c_40 => ?_)
    · exfalso; omega
    · refine r_aload_n (pc := 43) dX11_isNumber_43 rfl (by first | rfl | exact isRefV_rf _) ?_
      refine r_callV0 (pc := 44) dX11_isNumber_44 qX11_here kX11_74 vX11_here (by exact isM.gx (by assumption)) rfl rfl (Nat.le_of_ble_eq_true rfl) (m_here (d + 2) hB0 hT hq) (fun v_44 h_44 q_44 => ?_)
      obtain ⟨rfl, rfl⟩ := q_44
      refine rj_bipush (pc := 47) dX11_isNumber_47 (by decide +kernel) ?_
      refine rj_bipush (pc := 49) dX11_isNumber_49 (by decide +kernel) ?_
      refine r_callS3 (pc := 51) dX11_isNumber_51 qX11_isIn kX11_46 sX11_isIn (Nat.le_of_ble_eq_true rfl) (m_isIn (d + 2) ⟨by omega, by omega⟩ (by decide) (by decide)) (fun v_51 h_51 q_51 => ?_)
      obtain ⟨rfl, rfl⟩ := q_51
      refine rj_if_eq (pc := 54) (tgt := 92) dX11_isNumber_54 (by decide) (by first | assumption | exact b01_r | exact bz_r | omega | (constructor <;> omega) | exact hM _ | exact hPo _ | exact hTa _ | exact hRo _) (fun c_54 => ?_) (fun c_54 => ?_)
      · try simp only [b01_0, bz_0, Classical.not_not] at c_54
        rw [show numL sr f9 (n + 1) q = q by unfold numL; rw [if_neg c_54]]
        refine r_aload_n (pc := 92) dX11_isNumber_92 rfl (by first | rfl | exact isRefV_rf _) ?_
        refine rm_getf (pc := 93) dX11_isNumber_93 fX11_81 (by assumption) rfl ?_
        refine r_iload_n (pc := 96) dX11_isNumber_96 rfl ?_
        refine r_iload_n (pc := 97) dX11_isNumber_97 rfl ?_
        refine r_callS3 (pc := 98) dX11_isNumber_98 qX11_isIn kX11_46 sX11_isIn (Nat.le_of_ble_eq_true rfl) (m_isIn (d + 2) ⟨by omega, by omega⟩ hlo hhi) (fun v_98 h_98 q_98 => ?_)
        obtain ⟨rfl, rfl⟩ := q_98
        refine rj_if_ne (pc := 101) (tgt := 113) dX11_isNumber_101 (by decide) (by first | assumption | exact b01_r | exact bz_r | omega | (constructor <;> omega) | exact hM _ | exact hPo _ | exact hTa _ | exact hRo _) (fun c_101 => ?_) (fun c_101 => ?_)
        · try simp only [b01_0, bz_0, Classical.not_not] at c_101
          refine rj_iconst (pc := 113) dX11_isNumber_113 ?_
          refine r_goto (pc := 114) (tgt := 118) dX11_isNumber_114 (by decide) ?_
          refine r_ireturn (pc := 118) .boolean dX11_isNumber_118 rfl (by first | exact nar_J0 | exact nar_J1 | exact nar_b01 | exact nar_bz) ?_
          first
          | exact ⟨vt c_101, by unfold finF; rw [if_pos c_101]; exact hB0, Same.refl⟩
          | exact ⟨vf c_101, by unfold finF; rw [if_neg c_101]; exact hB_107, hS_107⟩
          | exact absurd trivial c_110
        · try simp only [b01_0, bz_0, Classical.not_not] at c_101
          refine r_aload_n (pc := 104) dX11_isNumber_104 rfl (by first | rfl | exact isRefV_rf _) ?_
          refine r_iload (pc := 105) dX11_isNumber_105 rfl ?_
          refine r_callV1 (pc := 107) dX11_isNumber_107 qX11_fails kX11_78 vX11_fails (by exact isM.gx (by assumption)) rfl rfl (Nat.le_of_ble_eq_true rfl) (m_fails (d + 2) hB0 hT hq) (fun v_107 h_107 q_107 => ?_)
          obtain ⟨rfl, hB_107, hS_107⟩ := q_107
          refine rj_if_eq (pc := 110) (tgt := 117) dX11_isNumber_110 (by decide) (by first | assumption | exact b01_r | exact bz_r | omega | (constructor <;> omega) | exact hM _ | exact hPo _ | exact hTa _ | exact hRo _) (fun c_110 => ?_) (fun c_110 => ?_)
          · try simp only [b01_0, bz_0, Classical.not_not] at c_110
            refine rj_iconst (pc := 117) dX11_isNumber_117 ?_
            refine r_ireturn (pc := 118) .boolean dX11_isNumber_118 rfl (by first | exact nar_J0 | exact nar_J1 | exact nar_b01 | exact nar_bz) ?_
            first
            | exact ⟨vt c_101, by unfold finF; rw [if_pos c_101]; exact hB0, Same.refl⟩
            | exact ⟨vf c_101, by unfold finF; rw [if_neg c_101]; exact hB_107, hS_107⟩
            | exact absurd trivial c_110
          · try simp only [b01_0, bz_0, Classical.not_not] at c_110
            refine rj_iconst (pc := 113) dX11_isNumber_113 ?_
            refine r_goto (pc := 114) (tgt := 118) dX11_isNumber_114 (by decide) ?_
            refine r_ireturn (pc := 118) .boolean dX11_isNumber_118 rfl (by first | exact nar_J0 | exact nar_J1 | exact nar_b01 | exact nar_bz) ?_
            first
            | exact ⟨vt c_101, by unfold finF; rw [if_pos c_101]; exact hB0, Same.refl⟩
            | exact ⟨vf c_101, by unfold finF; rw [if_neg c_101]; exact hB_107, hS_107⟩
            | exact absurd trivial c_110
      · try simp only [b01_0, bz_0, Classical.not_not] at c_54
        refine r_aload_n (pc := 57) dX11_isNumber_57 rfl (by first | rfl | exact isRefV_rf _) ?_
        refine rj_bipush (pc := 58) dX11_isNumber_58 (by decide +kernel) ?_
        refine r_aload_n (pc := 60) dX11_isNumber_60 rfl (by first | rfl | exact isRefV_rf _) ?_
        refine rm_getf (pc := 61) dX11_isNumber_61 fX11_81 (by assumption) rfl ?_
        refine rj_imul (pc := 64) dX11_isNumber_64 ?_
        refine r_aload_n (pc := 65) dX11_isNumber_65 rfl (by first | rfl | exact isRefV_rf _) ?_
        refine r_callV0 (pc := 66) dX11_isNumber_66 qX11_here kX11_74 vX11_here (by exact isM.gx (by assumption)) rfl rfl (Nat.le_of_ble_eq_true rfl) (m_here (d + 2) hB0 hT hq) (fun v_66 h_66 q_66 => ?_)
        obtain ⟨rfl, rfl⟩ := q_66
        refine rj_iadd (pc := 69) dX11_isNumber_69 ?_
        refine rj_bipush (pc := 70) dX11_isNumber_70 (by decide +kernel) ?_
        refine rj_isub (pc := 72) dX11_isNumber_72 ?_
        refine rm_putf (pc := 73) dX11_isNumber_73 fX11_81 (by assumption) rfl rfl (Nat.le_of_ble_eq_true rfl) (fun h_73 hB_73 hS_73 => ?_)
        dsimp only [List.set, mFs] at hB_73
        refine r_aload_n (pc := 76) dX11_isNumber_76 rfl (by first | rfl | exact isRefV_rf _) ?_
        refine r_dup (pc := 77) dX11_isNumber_77 (by first | rfl | (cases ‹Option Nat› <;> rfl)) ?_
        refine rm_getf (pc := 78) dX11_isNumber_78 fX11_65 (by assumption) rfl ?_
        refine rj_iconst (pc := 81) dX11_isNumber_81 ?_
        refine rj_iadd (pc := 82) dX11_isNumber_82 ?_
        refine rm_putf (pc := 83) dX11_isNumber_83 fX11_65 (by assumption) rfl rfl (Nat.le_of_ble_eq_true rfl) (fun h_83 hB_83 hS_83 => ?_)
        dsimp only [List.set, mFs] at hB_83
        refine rj_iinc (pc := 86) dX11_isNumber_86 (Nat.le_of_ble_eq_true rfl) rfl ?_
        dsimp only [lsSt, List.set, mLs, mEnt]
        refine r_goto (pc := 89) (tgt := 37) dX11_isNumber_89 (by decide) ?_
        have hl := here_lt (sr := sr) (len := f9) (a := q.1) (by omega)
        have hb := bnd_s n (by omega)
        have hb0 := bnd_0 n
        have z := ih (k + 1) (q.1 + 1, q.2.1, 10 * q.2.2.1 + hereF sr f9 q.1 - 48, q.2.2.2) _ hB_83 ⟨by dsimp only; omega, by dsimp only; omega, hq3, hq4, by dsimp only; omega, by dsimp only; omega, hq7, by dsimp only; omega⟩ (by omega) (by dsimp only; omega)
        rw [show numL sr f9 (n + 1) q = numL sr f9 n (q.1 + 1, q.2.1, 10 * q.2.2.1 + hereF sr f9 q.1 - 48, q.2.2.2) by rw [numL, if_pos c_54]]
        exact z.mono (fun v h' g => ⟨g.1, g.2.1, (hS_73.trans hS_83).trans g.2.2⟩)
theorem number_ok {sr : Nat → Int} {len : Int} {n : Nat} {l m : Int} {q : PS} (hn : n ≤ 5) (hq : psOk len q) : psOk len (numberF sr len n l m q) := by
  unfold numberF
  obtain ⟨a, b, c, d, e, f, g, i⟩ := id hq
  split
  · have h1 : psOk len (numL sr len n (q.1, q.2.1, 0, q.2.2.2)) := numL_ok n _ hn ⟨a, b, c, d, Int.le_refl _, (by show (0 : Int) ≤ 99999; decide), g, i⟩ (bnd_0 n).1
    unfold finF
    split
    · exact h1
    · exact fail_ok h1 a b
  · exact fail_ok hq a b
set_option maxHeartbeats 4000000 in
set_option maxRecDepth 100000 in
theorem m_isNumber {G : mG} {l : Launch} (d : Nat) {h : mH} {x s : Nat} {f4 f6 f9 f14 f16 f18 : Int} {q : PS} {m kp was pool tape pln pap rwd rw sr : Nat → Int} (hB : isM h x (mFs x f4 f6 q.1 f9 q.2.1 q.2.2.1 q.2.2.2.1 q.2.2.2.2 f14 f16 f18 s) m kp was pool tape pln pap rwd rw) (hT : txOk s sr pool tape f9) (hq : psOk f9 q) {F : Nat} (hF : F ≤ 5) {lo hi : Int} (hlo : InR lo) (hhi : InR hi) : RUNM G l (d + 3) mX11_isNumber [.ref x, .int (J (F : Int)), .int (J lo), .int (J hi)] h (fun v h' => v = some (.int (J (b01 (numberB sr f9 F lo hi q)))) ∧ isM h' x (mFs x f4 f6 (numberF sr f9 F lo hi q).1 f9 (numberF sr f9 F lo hi q).2.1 (numberF sr f9 F lo hi q).2.2.1 (numberF sr f9 F lo hi q).2.2.2.1 (numberF sr f9 F lo hi q).2.2.2.2 f14 f16 f18 s) m kp was pool tape pln pap rwd rw ∧ Same (mBlk x) h h') := by
  dsimp only [mFs] at hB
  refine RUNM.of (by decide +kernel) (Nat.le_of_ble_eq_true rfl) ?_
  have hB0 := hB
  obtain ⟨hq1, hq2, hq3, hq4, hq5, hq6, hq7, hq8⟩ := id hq
  obtain ⟨hs, hl0, hby⟩ := id hT
  have hh := here_r hT q.1
  refine r_aload_n (pc := 0) dX11_isNumber_0 rfl (by first | rfl | exact isRefV_rf _) ?_
  refine rm_getf (pc := 1) dX11_isNumber_1 fX11_65 (by assumption) rfl ?_
  refine r_istore (pc := 4) dX11_isNumber_4 (Nat.le_of_ble_eq_true rfl) ?_
  dsimp only [lsSt, List.set, mLs, mEnt]
  refine r_aload_n (pc := 6) dX11_isNumber_6 rfl (by first | rfl | exact isRefV_rf _) ?_
  refine r_callV0 (pc := 7) dX11_isNumber_7 qX11_here kX11_74 vX11_here (by exact isM.gx (by assumption)) rfl rfl (Nat.le_of_ble_eq_true rfl) (m_here (d + 2) hB0 hT hq) (fun v_7 h_7 q_7 => ?_)
  obtain ⟨rfl, rfl⟩ := q_7
  refine rj_bipush (pc := 10) dX11_isNumber_10 (by decide +kernel) ?_
  refine rj_bipush (pc := 12) dX11_isNumber_12 (by decide +kernel) ?_
  refine r_callS3 (pc := 14) dX11_isNumber_14 qX11_isIn kX11_46 sX11_isIn (Nat.le_of_ble_eq_true rfl) (m_isIn (d + 2) ⟨by omega, by omega⟩ (by decide) (by decide)) (fun v_14 h_14 q_14 => ?_)
  obtain ⟨rfl, rfl⟩ := q_14
  refine rj_if_ne (pc := 17) (tgt := 29) dX11_isNumber_17 (by decide) (by first | assumption | exact b01_r | exact bz_r | omega | (constructor <;> omega) | exact hM _ | exact hPo _ | exact hTa _ | exact hRo _) (fun c_17 => ?_) (fun c_17 => ?_)
  · try simp only [b01_0, bz_0, Classical.not_not] at c_17
    refine r_aload_n (pc := 29) dX11_isNumber_29 rfl (by first | rfl | exact isRefV_rf _) ?_
    refine rj_iconst (pc := 30) dX11_isNumber_30 ?_
    refine rm_putf (pc := 31) dX11_isNumber_31 fX11_81 (by assumption) rfl rfl (Nat.le_of_ble_eq_true rfl) (fun h_31 hB_31 hS_31 => ?_)
    dsimp only [List.set, mFs] at hB_31
    refine rj_iconst (pc := 34) dX11_isNumber_34 ?_
    refine r_istore (pc := 35) dX11_isNumber_35 (Nat.le_of_ble_eq_true rfl) ?_
    dsimp only [lsSt, List.set, mLs, mEnt]
    have z := L_number (G := G) (l := l) d hT hF hlo hhi hq1 hq2 F 0 (q.1, q.2.1, 0, q.2.2.2) _ hB_31 ⟨hq1, hq2, hq3, hq4, Int.le_refl _, by dsimp only; decide, hq7, hq8⟩ (Nat.zero_add _) (bnd_0 F).1
    refine z.mono (fun v h' g => ⟨?_, ?_, hS_31.trans g.2.2⟩)
    · rw [g.1]; unfold numberB; simp only [c_17, true_and, and_self]
    · unfold numberF; rw [if_pos c_17]; exact g.2.1
  · try simp only [b01_0, bz_0, Classical.not_not] at c_17
    refine r_aload_n (pc := 20) dX11_isNumber_20 rfl (by first | rfl | exact isRefV_rf _) ?_
    refine r_aload_n (pc := 21) dX11_isNumber_21 rfl (by first | rfl | exact isRefV_rf _) ?_
    refine rm_getf (pc := 22) dX11_isNumber_22 fX11_65 (by assumption) rfl ?_
    refine r_callV1 (pc := 25) dX11_isNumber_25 qX11_fails kX11_78 vX11_fails (by exact isM.gx (by assumption)) rfl rfl (Nat.le_of_ble_eq_true rfl) (m_fails (d + 2) hB0 hT hq) (fun v_25 h_25 q_25 => ?_)
    obtain ⟨rfl, hB_25, hS_25⟩ := q_25
    refine r_ireturn (pc := 28) .boolean dX11_isNumber_28 rfl (by first | exact nar_J0 | exact nar_J1 | exact nar_b01 | exact nar_bz) ?_
    exact ⟨vf (fun g => c_17 g.1), by unfold numberF; rw [if_neg c_17]; exact hB_25, hS_25⟩
def minusF (sr : Nat → Int) (len : Int) (q : PS) : PS := (q.1 + b01 (hereF sr len q.1 = 45), q.2)
abbrev signedB (sr : Nat → Int) (len : Int) (q : PS) : Prop := numberB sr len 5 0 99999 (minusF sr len q)
def signedF (sr : Nat → Int) (len : Int) (q : PS) : PS := numberF sr len 5 0 99999 (minusF sr len q)
theorem minus_ok {sr : Nat → Int} {len : Int} {q : PS} (hq : psOk len q) : psOk len (minusF sr len q) := by
  obtain ⟨a, b, c, d, e, f, g, i⟩ := id hq
  by_cases h : hereF sr len q.1 = 45
  · have hl := here_lt (sr := sr) (len := len) (a := q.1) (by omega)
    unfold minusF
    rw [b01_t h]
    exact ⟨by show 0 ≤ q.1 + 1; omega, by show q.1 + 1 ≤ len; omega, c, d, e, f, g, by show q.2.2.2.2 ≤ q.1 + 1 + 90; omega⟩
  · unfold minusF
    rw [b01_f h]
    exact ⟨by show 0 ≤ q.1 + 0; omega, by show q.1 + 0 ≤ len; omega, c, d, e, f, g, by show q.2.2.2.2 ≤ q.1 + 0 + 90; omega⟩
theorem signed_ok {sr : Nat → Int} {len : Int} {q : PS} (hq : psOk len q) : psOk len (signedF sr len q) := number_ok (by decide) (minus_ok hq)
set_option maxHeartbeats 4000000 in
set_option maxRecDepth 100000 in
theorem m_isSigned {G : mG} {l : Launch} (d : Nat) {h : mH} {x s : Nat} {f4 f6 f9 f14 f16 f18 : Int} {q : PS} {m kp was pool tape pln pap rwd rw sr : Nat → Int} (hB : isM h x (mFs x f4 f6 q.1 f9 q.2.1 q.2.2.1 q.2.2.2.1 q.2.2.2.2 f14 f16 f18 s) m kp was pool tape pln pap rwd rw) (hT : txOk s sr pool tape f9) (hq : psOk f9 q) : RUNM G l (d + 4) mX11_isSigned [.ref x] h (fun v h' => v = some (.int (J (b01 (signedB sr f9 q)))) ∧ isM h' x (mFs x f4 f6 (signedF sr f9 q).1 f9 (signedF sr f9 q).2.1 (signedF sr f9 q).2.2.1 (signedF sr f9 q).2.2.2.1 (signedF sr f9 q).2.2.2.2 f14 f16 f18 s) m kp was pool tape pln pap rwd rw ∧ Same (mBlk x) h h') := by
  dsimp only [mFs] at hB
  refine RUNM.of (by decide +kernel) (Nat.le_of_ble_eq_true rfl) ?_
  have hB0 := hB
  obtain ⟨hq1, hq2, hq3, hq4, hq5, hq6, hq7, hq8⟩ := id hq
  obtain ⟨hs, hl0, hby⟩ := id hT
  have hh := here_r hT q.1
  refine r_aload_n (pc := 0) dX11_isSigned_0 rfl (by first | rfl | exact isRefV_rf _) ?_
  refine r_dup (pc := 1) dX11_isSigned_1 (by first | rfl | (cases ‹Option Nat› <;> rfl)) ?_
  refine rm_getf (pc := 2) dX11_isSigned_2 fX11_65 (by assumption) rfl ?_
  refine r_aload_n (pc := 5) dX11_isSigned_5 rfl (by first | rfl | exact isRefV_rf _) ?_
  refine r_callV0 (pc := 6) dX11_isSigned_6 qX11_here kX11_74 vX11_here (by exact isM.gx (by assumption)) rfl rfl (Nat.le_of_ble_eq_true rfl) (m_here (d + 3) hB0 hT hq) (fun v_6 h_6 q_6 => ?_)
  obtain ⟨rfl, rfl⟩ := q_6
  refine rj_bipush (pc := 9) dX11_isSigned_9 (by decide +kernel) ?_
  refine rj_icmp_ne (pc := 11) (tgt := 18) dX11_isSigned_11 (by decide) (by first | assumption | exact b01_r | exact bz_r | omega | (constructor <;> omega) | exact hM _ | exact hPo _ | exact hTa _ | exact hRo _) (by first | assumption | exact b01_r | exact bz_r | omega | (constructor <;> omega) | exact hM _ | exact hPo _ | exact hTa _ | exact hRo _) (fun c_11 => ?_) (fun c_11 => ?_)
  · refine rj_iconst (pc := 18) dX11_isSigned_18 ?_
    refine rj_iadd (pc := 19) dX11_isSigned_19 ?_
    refine rm_putf (pc := 20) dX11_isSigned_20 fX11_65 (by assumption) rfl rfl (Nat.le_of_ble_eq_true rfl) (fun h_20 hB_20 hS_20 => ?_)
    dsimp only [List.set, mFs] at hB_20
    refine r_aload_n (pc := 23) dX11_isSigned_23 rfl (by first | rfl | exact isRefV_rf _) ?_
    refine rj_iconst (pc := 24) dX11_isSigned_24 ?_
    refine rj_iconst (pc := 25) dX11_isSigned_25 ?_
    refine rj_ldc (99999) (pc := 26) dX11_isSigned_26 oX11_84 (by decide +kernel) ?_
    refine r_callV3 (pc := 28) dX11_isSigned_28 qX11_isNumber kX11_85 vX11_isNumber (by exact isM.gx (by assumption)) rfl rfl (Nat.le_of_ble_eq_true rfl) ((m_isNumber (q := minusF sr f9 q) (F := 5) (lo := 0) (hi := 99999) d (by unfold minusF; rw [b01_f c_11]; exact hB_20) hT (minus_ok hq) (by decide) (by decide) (by decide))) (fun v_28 h_28 q_28 => ?_)
    obtain ⟨rfl, hB_28, hS_28⟩ := q_28
    refine r_ireturn (pc := 31) .boolean dX11_isSigned_31 rfl (by first | exact nar_J0 | exact nar_J1 | exact nar_b01 | exact nar_bz) ?_
    exact ⟨rfl, hB_28, hS_20.trans hS_28⟩
  · refine rj_iconst (pc := 14) dX11_isSigned_14 ?_
    refine r_goto (pc := 15) (tgt := 19) dX11_isSigned_15 (by decide) ?_
    refine rj_iadd (pc := 19) dX11_isSigned_19 ?_
    refine rm_putf (pc := 20) dX11_isSigned_20 fX11_65 (by assumption) rfl rfl (Nat.le_of_ble_eq_true rfl) (fun h_20 hB_20 hS_20 => ?_)
    dsimp only [List.set, mFs] at hB_20
    refine r_aload_n (pc := 23) dX11_isSigned_23 rfl (by first | rfl | exact isRefV_rf _) ?_
    refine rj_iconst (pc := 24) dX11_isSigned_24 ?_
    refine rj_iconst (pc := 25) dX11_isSigned_25 ?_
    refine rj_ldc (99999) (pc := 26) dX11_isSigned_26 oX11_84 (by decide +kernel) ?_
    refine r_callV3 (pc := 28) dX11_isSigned_28 qX11_isNumber kX11_85 vX11_isNumber (by exact isM.gx (by assumption)) rfl rfl (Nat.le_of_ble_eq_true rfl) ((m_isNumber (q := minusF sr f9 q) (F := 5) (lo := 0) (hi := 99999) d (by unfold minusF; rw [b01_t c_11]; exact hB_20) hT (minus_ok hq) (by decide) (by decide) (by decide))) (fun v_28 h_28 q_28 => ?_)
    obtain ⟨rfl, hB_28, hS_28⟩ := q_28
    refine r_ireturn (pc := 31) .boolean dX11_isSigned_31 rfl (by first | exact nar_J0 | exact nar_J1 | exact nar_b01 | exact nar_bz) ?_
    exact ⟨rfl, hB_28, hS_20.trans hS_28⟩
def nameL (sr : Nat → Int) (len : Int) : Nat → PS → PS
  | 0, q => q
  | n + 1, q => if 97 ≤ hereF sr len q.1 ∧ hereF sr len q.1 ≤ 122 then nameL sr len n (advF q) else q
abbrev nameB (sr : Nat → Int) (len : Int) (q : PS) : Prop := 97 ≤ hereF sr len q.1 ∧ hereF sr len q.1 ≤ 122
def nameF (sr : Nat → Int) (len : Int) (q : PS) : PS := if nameB sr len q then nameL sr len 7 q else failF q.1 q
theorem nameL_ok {sr : Nat → Int} {len : Int} : ∀ (n : Nat) (q : PS), psOk len q → psOk len (nameL sr len n q)
  | 0, q, hq => hq
  | n + 1, q, hq => by
    unfold nameL
    split
    · exact nameL_ok n _ (adv_ok hq (here_lt (sr := sr) (by omega)))
    · exact hq
theorem name_ok {sr : Nat → Int} {len : Int} {q : PS} (hq : psOk len q) : psOk len (nameF sr len q) := by
  unfold nameF
  split
  · exact nameL_ok 7 _ hq
  · exact fail_ok hq hq.1 hq.2.1
set_option maxHeartbeats 4000000 in
set_option maxRecDepth 100000 in
theorem L_name {G : mG} {l : Launch} (d : Nat) {x s : Nat} {f4 f6 f9 f14 f16 f18 : Int} {m kp was pool tape pln pap rwd rw sr : Nat → Int} (hT : txOk s sr pool tape f9) : ∀ (n k : Nat) (q : PS) (h : mH), isM h x (mFs x f4 f6 q.1 f9 q.2.1 q.2.2.1 q.2.2.2.1 q.2.2.2.2 f14 f16 f18 s) m kp was pool tape pln pap rwd rw → psOk f9 q → k + n = 7 → RUN G l (d + 2) mX11_isName 25 [some (.ref x), some (.int (J (k : Int)))] [] h (fun v h' => v = some (.int (J 1)) ∧ isM h' x (mFs x f4 f6 (nameL sr f9 n q).1 f9 (nameL sr f9 n q).2.1 (nameL sr f9 n q).2.2.1 (nameL sr f9 n q).2.2.2.1 (nameL sr f9 n q).2.2.2.2 f14 f16 f18 s) m kp was pool tape pln pap rwd rw ∧ Same (mBlk x) h h') := by
  obtain ⟨hs, hl0, hby⟩ := id hT
  have h97 : f9 ≤ 12342 := by rcases hs with h | h <;> omega
  intro n
  induction n with
  | zero =>
    intro k q h hB hq hk
    have hB0 := hB
    dsimp only [mFs] at hB
    obtain ⟨hq1, hq2, hq3, hq4, hq5, hq6, hq7, hq8⟩ := id hq
    have hh := here_r hT q.1
    refine r_iload_n (pc := 25) dX11_isName_25 rfl ?_
    refine rj_bipush (pc := 26) dX11_isName_26 (by decide +kernel) ?_
    refine rj_icmp_ge (pc := 28) (tgt := 61) dX11_isName_28 (by decide) (by first | assumption | exact b01_r | exact bz_r | omega | (constructor <;> omega) | exact hM _ | exact hPo _ | exact hTa _ | exact hRo _) (by first | assumption | exact b01_r | exact bz_r | omega | (constructor <;> omega) | exact hM _ | exact hPo _ | exact hTa _ | exact hRo _) (fun c_28 => ?_) (fun c_28 => ?_)
    · refine rj_iconst (pc := 61) dX11_isName_61 ?_
      refine r_ireturn (pc := 62) .boolean dX11_isName_62 rfl (by first | exact nar_J0 | exact nar_J1 | exact nar_b01 | exact nar_bz) ?_
      exact ⟨rfl, hB0, Same.refl⟩
    · exfalso; omega
  | succ n ih =>
    intro k q h hB hq hk
    have hB0 := hB
    dsimp only [mFs] at hB
    obtain ⟨hq1, hq2, hq3, hq4, hq5, hq6, hq7, hq8⟩ := id hq
    have hh := here_r hT q.1
    refine r_iload_n (pc := 25) dX11_isName_25 rfl ?_
    refine rj_bipush (pc := 26) dX11_isName_26 (by decide +kernel) ?_
    refine rj_icmp_ge (pc := 28) (tgt := 61) dX11_isName_28 (by decide) (by first | assumption | exact b01_r | exact bz_r | omega | (constructor <;> omega) | exact hM _ | exact hPo _ | exact hTa _ | exact hRo _) (by first | assumption | exact b01_r | exact bz_r | omega | (constructor <;> omega) | exact hM _ | exact hPo _ | exact hTa _ | exact hRo _) (fun c_28 => ?_) (fun c_28 => ?_)
    · exfalso; omega
    · refine r_aload_n (pc := 31) dX11_isName_31 rfl (by first | rfl | exact isRefV_rf _) ?_
      refine r_callV0 (pc := 32) dX11_isName_32 qX11_here kX11_74 vX11_here (by exact isM.gx (by assumption)) rfl rfl (Nat.le_of_ble_eq_true rfl) (m_here (d + 1) hB0 hT hq) (fun v_32 h_32 q_32 => ?_)
      obtain ⟨rfl, rfl⟩ := q_32
      refine rj_bipush (pc := 35) dX11_isName_35 (by decide +kernel) ?_
      refine rj_bipush (pc := 37) dX11_isName_37 (by decide +kernel) ?_
      refine r_callS3 (pc := 39) dX11_isName_39 qX11_isIn kX11_46 sX11_isIn (Nat.le_of_ble_eq_true rfl) (m_isIn (d + 1) ⟨by omega, by omega⟩ (by decide) (by decide)) (fun v_39 h_39 q_39 => ?_)
      obtain ⟨rfl, rfl⟩ := q_39
      refine rj_if_eq (pc := 42) (tgt := 61) dX11_isName_42 (by decide) (by first | assumption | exact b01_r | exact bz_r | omega | (constructor <;> omega) | exact hM _ | exact hPo _ | exact hTa _ | exact hRo _) (fun c_42 => ?_) (fun c_42 => ?_)
      · try simp only [b01_0, bz_0, Classical.not_not] at c_42
        rw [show nameL sr f9 (n + 1) q = q by unfold nameL; rw [if_neg c_42]]
        refine rj_iconst (pc := 61) dX11_isName_61 ?_
        refine r_ireturn (pc := 62) .boolean dX11_isName_62 rfl (by first | exact nar_J0 | exact nar_J1 | exact nar_b01 | exact nar_bz) ?_
        exact ⟨rfl, hB0, Same.refl⟩
      · try simp only [b01_0, bz_0, Classical.not_not] at c_42
        refine r_aload_n (pc := 45) dX11_isName_45 rfl (by first | rfl | exact isRefV_rf _) ?_
        refine r_dup (pc := 46) dX11_isName_46 (by first | rfl | (cases ‹Option Nat› <;> rfl)) ?_
        refine rm_getf (pc := 47) dX11_isName_47 fX11_65 (by assumption) rfl ?_
        refine rj_iconst (pc := 50) dX11_isName_50 ?_
        refine rj_iadd (pc := 51) dX11_isName_51 ?_
        refine rm_putf (pc := 52) dX11_isName_52 fX11_65 (by assumption) rfl rfl (Nat.le_of_ble_eq_true rfl) (fun h_52 hB_52 hS_52 => ?_)
        dsimp only [List.set, mFs] at hB_52
        refine rj_iinc (pc := 55) dX11_isName_55 (Nat.le_of_ble_eq_true rfl) rfl ?_
        dsimp only [lsSt, List.set, mLs, mEnt]
        refine r_goto (pc := 58) (tgt := 25) dX11_isName_58 (by decide) ?_
        have hl := here_lt (sr := sr) (len := f9) (a := q.1) (by omega)
        have z := ih (k + 1) (advF q) _ hB_52 (adv_ok hq hl) (by omega)
        rw [show nameL sr f9 (n + 1) q = nameL sr f9 n (advF q) by rw [nameL, if_pos c_42]]
        exact z.mono (fun v h' g => ⟨g.1, g.2.1, hS_52.trans g.2.2⟩)
set_option maxHeartbeats 4000000 in
set_option maxRecDepth 100000 in
theorem m_isName {G : mG} {l : Launch} (d : Nat) {h : mH} {x s : Nat} {f4 f6 f9 f14 f16 f18 : Int} {q : PS} {m kp was pool tape pln pap rwd rw sr : Nat → Int} (hB : isM h x (mFs x f4 f6 q.1 f9 q.2.1 q.2.2.1 q.2.2.2.1 q.2.2.2.2 f14 f16 f18 s) m kp was pool tape pln pap rwd rw) (hT : txOk s sr pool tape f9) (hq : psOk f9 q) : RUNM G l (d + 2) mX11_isName [.ref x] h (fun v h' => v = some (.int (J (b01 (nameB sr f9 q)))) ∧ isM h' x (mFs x f4 f6 (nameF sr f9 q).1 f9 (nameF sr f9 q).2.1 (nameF sr f9 q).2.2.1 (nameF sr f9 q).2.2.2.1 (nameF sr f9 q).2.2.2.2 f14 f16 f18 s) m kp was pool tape pln pap rwd rw ∧ Same (mBlk x) h h') := by
  dsimp only [mFs] at hB
  refine RUNM.of (by decide +kernel) (Nat.le_of_ble_eq_true rfl) ?_
  have hB0 := hB
  obtain ⟨hq1, hq2, hq3, hq4, hq5, hq6, hq7, hq8⟩ := id hq
  obtain ⟨hs, hl0, hby⟩ := id hT
  have hh := here_r hT q.1
  refine r_aload_n (pc := 0) dX11_isName_0 rfl (by first | rfl | exact isRefV_rf _) ?_
  refine r_callV0 (pc := 1) dX11_isName_1 qX11_here kX11_74 vX11_here (by exact isM.gx (by assumption)) rfl rfl (Nat.le_of_ble_eq_true rfl) (m_here (d + 1) hB0 hT hq) (fun v_1 h_1 q_1 => ?_)
  obtain ⟨rfl, rfl⟩ := q_1
  refine rj_bipush (pc := 4) dX11_isName_4 (by decide +kernel) ?_
  refine rj_bipush (pc := 6) dX11_isName_6 (by decide +kernel) ?_
  refine r_callS3 (pc := 8) dX11_isName_8 qX11_isIn kX11_46 sX11_isIn (Nat.le_of_ble_eq_true rfl) (m_isIn (d + 1) ⟨by omega, by omega⟩ (by decide) (by decide)) (fun v_8 h_8 q_8 => ?_)
  obtain ⟨rfl, rfl⟩ := q_8
  refine rj_if_ne (pc := 11) (tgt := 23) dX11_isName_11 (by decide) (by first | assumption | exact b01_r | exact bz_r | omega | (constructor <;> omega) | exact hM _ | exact hPo _ | exact hTa _ | exact hRo _) (fun c_11 => ?_) (fun c_11 => ?_)
  · try simp only [b01_0, bz_0, Classical.not_not] at c_11
    refine rj_iconst (pc := 23) dX11_isName_23 ?_
    refine r_istore_n (pc := 24) dX11_isName_24 (Nat.le_of_ble_eq_true rfl) ?_
    dsimp only [lsSt, List.set, mLs, mEnt]
    have z := L_name (G := G) (l := l) d hT 7 0 q _ hB0 hq rfl
    exact z.mono (fun v h' g => ⟨by rw [g.1]; exact vt c_11, by unfold nameF; rw [if_pos c_11]; exact g.2.1, g.2.2⟩)
  · try simp only [b01_0, bz_0, Classical.not_not] at c_11
    refine r_aload_n (pc := 14) dX11_isName_14 rfl (by first | rfl | exact isRefV_rf _) ?_
    refine r_aload_n (pc := 15) dX11_isName_15 rfl (by first | rfl | exact isRefV_rf _) ?_
    refine rm_getf (pc := 16) dX11_isName_16 fX11_65 (by assumption) rfl ?_
    refine r_callV1 (pc := 19) dX11_isName_19 qX11_fails kX11_78 vX11_fails (by exact isM.gx (by assumption)) rfl rfl (Nat.le_of_ble_eq_true rfl) (m_fails (d + 1) hB0 hT hq) (fun v_19 h_19 q_19 => ?_)
    obtain ⟨rfl, hB_19, hS_19⟩ := q_19
    refine r_ireturn (pc := 22) .boolean dX11_isName_22 rfl (by first | exact nar_J0 | exact nar_J1 | exact nar_b01 | exact nar_bz) ?_
    exact ⟨vf c_11, by unfold nameF; rw [if_neg c_11]; exact hB_19, hS_19⟩
end mg_24
section mg_25
/-! ===== contracts of the reference: steps ===== -/
def andR (r : Bool × PS) (f : PS → Bool × PS) : Bool × PS := if r.1 = true then f r.2 else r
def nR (sr : Nat → Int) (len : Int) (n : Nat) (l m : Int) (q : PS) : Bool × PS := (decide (numberB sr len n l m q), numberF sr len n l m q)
def gR (sr : Nat → Int) (len : Int) (c : Int) (q : PS) : Bool × PS := (decide (hereF sr len q.1 = c), signF sr len c q)
def vR (sr : Nat → Int) (len : Int) (q : PS) : Bool × PS := (decide (signedB sr len q), signedF sr len q)
def aR (sr : Nat → Int) (len : Int) (q : PS) : Bool × PS := (decide (nameB sr len q), nameF sr len q)
def takeG (sr : Nat → Int) (len : Int) (steps : PS → Bool × PS) (w : Int) (q : PS) : Bool × PS :=
  andR (aR sr len q) (fun q1 => if hereF sr len q1.1 = 123 then (if 2 < w then (false, failF q1.1 q1) else andR (steps (advF q1)) (gR sr len 125)) else (true, q1))
abbrev stepOk (c : Int) (it bh : Bool) (q : PS) : Prop := c = 43 ∨ c = 33 ∨ c = 97 ∨ c = 120 ∨ c = 109 ∨ c = 107 ∨ c = 46 ∨ (c = 63 ∧ bh = false) ∨ ((c = 40 ∨ (c = 41 ∧ 0 < q.2.2.2.2)) ∧ it = true)
def openF (c : Int) (q : PS) : PS := (q.1, q.2.1, q.2.2.1, q.2.2.2.1, q.2.2.2.2 + (if c = 40 then 1 else if c = 41 then -1 else 0))
def stepG (sr : Nat → Int) (len : Int) (take inner : PS → Bool × PS) (c : Int) (q : PS) : Bool × PS :=
  if c = 43 then andR (andR (nR sr len 1 0 7 q) (gR sr len 61)) (vR sr len)
  else if c = 33 then nR sr len 2 1 99 q
  else if c = 97 then take q
  else if c = 120 then aR sr len q
  else if c = 109 then andR (andR (aR sr len q) (gR sr len 62)) (nR sr len 2 0 99)
  else if c = 107 then nR sr len 1 0 9 q
  else if c = 63 then andR (andR (andR (andR (nR sr len 1 0 7 q) (gR sr len 60)) (vR sr len)) (gR sr len 58)) inner
  else (true, openF c q)
theorem andR_t {r : Bool × PS} {f : PS → Bool × PS} (h : r.1 = true) : andR r f = f r.2 := by simp [andR, h]
theorem andR_f {r : Bool × PS} {f : PS → Bool × PS} (h : ¬ r.1 = true) : andR r f = r := by simp [andR, h]
set_option maxHeartbeats 4000000 in
set_option maxRecDepth 100000 in
theorem l_number {G : mG} {l : Launch} (d : Nat) {h : mH} {x s : Nat} {f4 f6 f9 f14 f16 f18 : Int} {q : PS} {m kp was pool tape pln pap rwd rw sr : Nat → Int} (hB : isM h x (mFs x f4 f6 q.1 f9 q.2.1 q.2.2.1 q.2.2.2.1 q.2.2.2.2 f14 f16 f18 s) m kp was pool tape pln pap rwd rw) (hT : txOk s sr pool tape f9) (hq : psOk f9 q) {F : Nat} (hF : F ≤ 5) {lo hi : Int} (hlo : InR lo) (hhi : InR hi) : RUNM G l (d + 3) mX11_isNumber [.ref x, .int (J (F : Int)), .int (J lo), .int (J hi)] h (fun v h' => v = some (.int (J (bz (nR sr f9 F lo hi q).1))) ∧ isM h' x (mFs x f4 f6 ((nR sr f9 F lo hi q).2).1 f9 ((nR sr f9 F lo hi q).2).2.1 ((nR sr f9 F lo hi q).2).2.2.1 ((nR sr f9 F lo hi q).2).2.2.2.1 ((nR sr f9 F lo hi q).2).2.2.2.2 f14 f16 f18 s) m kp was pool tape pln pap rwd rw ∧ Same (mBlk x) h h') := (m_isNumber (F := F) d hB hT hq hF hlo hhi).mono (fun v h' g => ⟨by rw [g.1]; unfold nR; rw [bz_d], g.2.1, g.2.2⟩)
set_option maxHeartbeats 4000000 in
set_option maxRecDepth 100000 in
theorem l_sign {G : mG} {l : Launch} (d : Nat) {h : mH} {x s : Nat} {f4 f6 f9 f14 f16 f18 : Int} {q : PS} {m kp was pool tape pln pap rwd rw sr : Nat → Int} (hB : isM h x (mFs x f4 f6 q.1 f9 q.2.1 q.2.2.1 q.2.2.2.1 q.2.2.2.2 f14 f16 f18 s) m kp was pool tape pln pap rwd rw) (hT : txOk s sr pool tape f9) (hq : psOk f9 q) {c : Int} (hc : InR c) : RUNM G l (d + 1) mX11_isSign [.ref x, .int (J c)] h (fun v h' => v = some (.int (J (bz (gR sr f9 c q).1))) ∧ isM h' x (mFs x f4 f6 ((gR sr f9 c q).2).1 f9 ((gR sr f9 c q).2).2.1 ((gR sr f9 c q).2).2.2.1 ((gR sr f9 c q).2).2.2.2.1 ((gR sr f9 c q).2).2.2.2.2 f14 f16 f18 s) m kp was pool tape pln pap rwd rw ∧ Same (mBlk x) h h') := (m_isSign d hB hT hq hc).mono (fun v h' g => ⟨by rw [g.1]; unfold gR; rw [bz_d], g.2.1, g.2.2⟩)
set_option maxHeartbeats 4000000 in
set_option maxRecDepth 100000 in
theorem l_signed {G : mG} {l : Launch} (d : Nat) {h : mH} {x s : Nat} {f4 f6 f9 f14 f16 f18 : Int} {q : PS} {m kp was pool tape pln pap rwd rw sr : Nat → Int} (hB : isM h x (mFs x f4 f6 q.1 f9 q.2.1 q.2.2.1 q.2.2.2.1 q.2.2.2.2 f14 f16 f18 s) m kp was pool tape pln pap rwd rw) (hT : txOk s sr pool tape f9) (hq : psOk f9 q) : RUNM G l (d + 4) mX11_isSigned [.ref x] h (fun v h' => v = some (.int (J (bz (vR sr f9 q).1))) ∧ isM h' x (mFs x f4 f6 ((vR sr f9 q).2).1 f9 ((vR sr f9 q).2).2.1 ((vR sr f9 q).2).2.2.1 ((vR sr f9 q).2).2.2.2.1 ((vR sr f9 q).2).2.2.2.2 f14 f16 f18 s) m kp was pool tape pln pap rwd rw ∧ Same (mBlk x) h h') := (m_isSigned d hB hT hq).mono (fun v h' g => ⟨by rw [g.1]; unfold vR; rw [bz_d], g.2.1, g.2.2⟩)
set_option maxHeartbeats 4000000 in
set_option maxRecDepth 100000 in
theorem l_name {G : mG} {l : Launch} (d : Nat) {h : mH} {x s : Nat} {f4 f6 f9 f14 f16 f18 : Int} {q : PS} {m kp was pool tape pln pap rwd rw sr : Nat → Int} (hB : isM h x (mFs x f4 f6 q.1 f9 q.2.1 q.2.2.1 q.2.2.2.1 q.2.2.2.2 f14 f16 f18 s) m kp was pool tape pln pap rwd rw) (hT : txOk s sr pool tape f9) (hq : psOk f9 q) : RUNM G l (d + 2) mX11_isName [.ref x] h (fun v h' => v = some (.int (J (bz (aR sr f9 q).1))) ∧ isM h' x (mFs x f4 f6 ((aR sr f9 q).2).1 f9 ((aR sr f9 q).2).2.1 ((aR sr f9 q).2).2.2.1 ((aR sr f9 q).2).2.2.2.1 ((aR sr f9 q).2).2.2.2.2 f14 f16 f18 s) m kp was pool tape pln pap rwd rw ∧ Same (mBlk x) h h') := (m_isName d hB hT hq).mono (fun v h' g => ⟨by rw [g.1]; unfold aR; rw [bz_d], g.2.1, g.2.2⟩)
theorem nR_ok {sr : Nat → Int} {len : Int} {n : Nat} {l m : Int} {q : PS} (hn : n ≤ 5) (hq : psOk len q) : psOk len (nR sr len n l m q).2 := number_ok hn hq
theorem gR_ok {sr : Nat → Int} {len c : Int} {q : PS} (hc : c ≠ -1) (hq : psOk len q) : psOk len (gR sr len c q).2 := sign_ok hq hc
theorem vR_ok {sr : Nat → Int} {len : Int} {q : PS} (hq : psOk len q) : psOk len (vR sr len q).2 := signed_ok hq
theorem aR_ok {sr : Nat → Int} {len : Int} {q : PS} (hq : psOk len q) : psOk len (aR sr len q).2 := name_ok hq
set_option maxHeartbeats 4000000 in
set_option maxRecDepth 100000 in
theorem m_isTakeRead {G : mG} {l : Launch} (d : Nat) {h : mH} {x s : Nat} {f4 f6 f9 f14 f16 f18 : Int} {q : PS} {m kp was pool tape pln pap rwd rw sr : Nat → Int} (hB : isM h x (mFs x f4 f6 q.1 f9 q.2.1 q.2.2.1 q.2.2.2.1 q.2.2.2.2 f14 f16 f18 s) m kp was pool tape pln pap rwd rw) (hT : txOk s sr pool tape f9) (hq : psOk f9 q) {w : Int} (hw0 : 0 ≤ w) (hw : w ≤ 3) {steps : PS → Bool × PS} (hst : ∀ q, psOk f9 q → psOk f9 (steps q).2) {e : Nat} (hSt : w ≤ 2 → ∀ (q : PS) (h : mH), isM h x (mFs x f4 f6 q.1 f9 q.2.1 q.2.2.1 q.2.2.2.1 q.2.2.2.2 f14 f16 f18 s) m kp was pool tape pln pap rwd rw → psOk f9 q → RUNM G l (e + d + 2) mX11_isStepsRead [.ref x, .int (J (w + 1)), .int (J 0)] h (fun v h' => v = some (.int (J (bz (steps q).1))) ∧ isM h' x (mFs x f4 f6 ((steps q).2).1 f9 ((steps q).2).2.1 ((steps q).2).2.2.1 ((steps q).2).2.2.2.1 ((steps q).2).2.2.2.2 f14 f16 f18 s) m kp was pool tape pln pap rwd rw ∧ Same (mBlk x) h h')) : RUNM G l (e + d + 3) mX11_isTakeRead [.ref x, .int (J w)] h (fun v h' => v = some (.int (J (bz (takeG sr f9 steps w q).1))) ∧ isM h' x (mFs x f4 f6 ((takeG sr f9 steps w q).2).1 f9 ((takeG sr f9 steps w q).2).2.1 ((takeG sr f9 steps w q).2).2.2.1 ((takeG sr f9 steps w q).2).2.2.2.1 ((takeG sr f9 steps w q).2).2.2.2.2 f14 f16 f18 s) m kp was pool tape pln pap rwd rw ∧ Same (mBlk x) h h') := by
  dsimp only [mFs] at hB
  refine RUNM.of (by decide +kernel) (Nat.le_of_ble_eq_true rfl) ?_
  have hB0 := hB
  obtain ⟨hq1, hq2, hq3, hq4, hq5, hq6, hq7, hq8⟩ := id hq
  obtain ⟨hs, hl0, hby⟩ := id hT
  refine r_aload_n (pc := 0) dX11_isTakeRead_0 rfl (by first | rfl | exact isRefV_rf _) ?_
  refine r_callV0 (pc := 1) dX11_isTakeRead_1 qX11_isName kX11_88 vX11_isName (by exact isM.gx (by assumption)) rfl rfl (Nat.le_of_ble_eq_true rfl) (l_name (e + d) hB0 hT hq) (fun v_1 h_1 q_1 => ?_)
  obtain ⟨rfl, hB_1, hS_1⟩ := q_1
  refine rj_if_ne (pc := 4) (tgt := 9) dX11_isTakeRead_4 (by decide) (by first | assumption | exact b01_r | exact bz_r | omega | (constructor <;> omega) | exact hM _ | exact hPo _ | exact hTa _ | exact hRo _) (fun c_4 => ?_) (fun c_4 => ?_)
  · try simp only [b01_0, bz_0, Classical.not_not] at c_4
    have hh := here_r hT (aR sr f9 q).2.1
    refine r_aload_n (pc := 9) dX11_isTakeRead_9 rfl (by first | rfl | exact isRefV_rf _) ?_
    refine r_callV0 (pc := 10) dX11_isTakeRead_10 qX11_here kX11_74 vX11_here (by exact isM.gx (by assumption)) rfl rfl (Nat.le_of_ble_eq_true rfl) (m_here (e + d + 2) hB_1 hT (aR_ok hq)) (fun v_10 h_10 q_10 => ?_)
    obtain ⟨rfl, rfl⟩ := q_10
    refine rj_bipush (pc := 13) dX11_isTakeRead_13 (by decide +kernel) ?_
    refine rj_icmp_eq (pc := 15) (tgt := 20) dX11_isTakeRead_15 (by decide) (by first | assumption | exact b01_r | exact bz_r | omega | (constructor <;> omega) | exact hM _ | exact hPo _ | exact hTa _ | exact hRo _) (by first | assumption | exact b01_r | exact bz_r | omega | (constructor <;> omega) | exact hM _ | exact hPo _ | exact hTa _ | exact hRo _) (fun c_15 => ?_) (fun c_15 => ?_)
    · refine r_iload_n (pc := 20) dX11_isTakeRead_20 rfl ?_
      refine rj_iconst (pc := 21) dX11_isTakeRead_21 ?_
      refine rj_icmp_le (pc := 22) (tgt := 34) dX11_isTakeRead_22 (by decide) (by first | assumption | exact b01_r | exact bz_r | omega | (constructor <;> omega) | exact hM _ | exact hPo _ | exact hTa _ | exact hRo _) (by first | assumption | exact b01_r | exact bz_r | omega | (constructor <;> omega) | exact hM _ | exact hPo _ | exact hTa _ | exact hRo _) (fun c_22 => ?_) (fun c_22 => ?_)
      · have hl1 := here_lt (sr := sr) (len := f9) (a := (aR sr f9 q).2.1) (by omega)
        refine r_aload_n (pc := 34) dX11_isTakeRead_34 rfl (by first | rfl | exact isRefV_rf _) ?_
        refine r_dup (pc := 35) dX11_isTakeRead_35 (by first | rfl | (cases ‹Option Nat› <;> rfl)) ?_
        refine rm_getf (pc := 36) dX11_isTakeRead_36 fX11_65 (by assumption) rfl ?_
        refine rj_iconst (pc := 39) dX11_isTakeRead_39 ?_
        refine rj_iadd (pc := 40) dX11_isTakeRead_40 ?_
        refine rm_putf (pc := 41) dX11_isTakeRead_41 fX11_65 (by assumption) rfl rfl (Nat.le_of_ble_eq_true rfl) (fun h_41 hB_41 hS_41 => ?_)
        dsimp only [List.set, mFs] at hB_41
        refine r_aload_n (pc := 44) dX11_isTakeRead_44 rfl (by first | rfl | exact isRefV_rf _) ?_
        refine r_iload_n (pc := 45) dX11_isTakeRead_45 rfl ?_
        refine rj_iconst (pc := 46) dX11_isTakeRead_46 ?_
        refine rj_iadd (pc := 47) dX11_isTakeRead_47 ?_
        refine rj_iconst (pc := 48) dX11_isTakeRead_48 ?_
        refine r_callV2 (pc := 49) dX11_isTakeRead_49 qX11_isStepsRead kX11_92 vX11_isStepsRead (by exact isM.gx (by assumption)) rfl rfl (Nat.le_of_ble_eq_true rfl) (hSt c_22 (advF (aR sr f9 q).2) _ hB_41 (adv_ok (aR_ok hq) hl1)) (fun v_49 h_49 q_49 => ?_)
        obtain ⟨rfl, hB_49, hS_49⟩ := q_49
        refine rj_if_eq (pc := 52) (tgt := 68) dX11_isTakeRead_52 (by decide) (by first | assumption | exact b01_r | exact bz_r | omega | (constructor <;> omega) | exact hM _ | exact hPo _ | exact hTa _ | exact hRo _) (fun c_52 => ?_) (fun c_52 => ?_)
        · try simp only [b01_0, bz_0, Classical.not_not] at c_52
          refine rj_iconst (pc := 68) dX11_isTakeRead_68 ?_
          refine r_ireturn (pc := 69) .boolean dX11_isTakeRead_69 rfl (by first | exact nar_J0 | exact nar_J1 | exact nar_b01 | exact nar_bz) ?_
          first
          | exact ⟨by unfold takeG; rw [andR_t c_4, if_pos c_15, if_neg (by omega), andR_f c_52, bz_f c_52], by unfold takeG; rw [andR_t c_4, if_pos c_15, if_neg (by omega), andR_f c_52]; exact hB_49, (hS_1.trans hS_41).trans hS_49⟩
          | exact ⟨by unfold takeG; rw [andR_t c_4, if_pos c_15, if_neg (by omega), andR_t c_52, bz_f c_61], by unfold takeG; rw [andR_t c_4, if_pos c_15, if_neg (by omega), andR_t c_52]; exact hB_58, ((hS_1.trans hS_41).trans hS_49).trans hS_58⟩
          | exact ⟨by unfold takeG; rw [andR_t c_4, if_pos c_15, if_neg (by omega), andR_t c_52, bz_t c_61], by unfold takeG; rw [andR_t c_4, if_pos c_15, if_neg (by omega), andR_t c_52]; exact hB_58, ((hS_1.trans hS_41).trans hS_49).trans hS_58⟩
        · try simp only [b01_0, bz_0, Classical.not_not] at c_52
          refine r_aload_n (pc := 55) dX11_isTakeRead_55 rfl (by first | rfl | exact isRefV_rf _) ?_
          refine rj_bipush (pc := 56) dX11_isTakeRead_56 (by decide +kernel) ?_
          refine r_callV1 (pc := 58) dX11_isTakeRead_58 qX11_isSign kX11_96 vX11_isSign (by exact isM.gx (by assumption)) rfl rfl (Nat.le_of_ble_eq_true rfl) (l_sign (e + d + 1) hB_49 hT (hst _ (adv_ok (aR_ok hq) hl1)) (by decide)) (fun v_58 h_58 q_58 => ?_)
          obtain ⟨rfl, hB_58, hS_58⟩ := q_58
          refine rj_if_eq (pc := 61) (tgt := 68) dX11_isTakeRead_61 (by decide) (by first | assumption | exact b01_r | exact bz_r | omega | (constructor <;> omega) | exact hM _ | exact hPo _ | exact hTa _ | exact hRo _) (fun c_61 => ?_) (fun c_61 => ?_)
          · try simp only [b01_0, bz_0, Classical.not_not] at c_61
            refine rj_iconst (pc := 68) dX11_isTakeRead_68 ?_
            refine r_ireturn (pc := 69) .boolean dX11_isTakeRead_69 rfl (by first | exact nar_J0 | exact nar_J1 | exact nar_b01 | exact nar_bz) ?_
            first
            | exact ⟨by unfold takeG; rw [andR_t c_4, if_pos c_15, if_neg (by omega), andR_f c_52, bz_f c_52], by unfold takeG; rw [andR_t c_4, if_pos c_15, if_neg (by omega), andR_f c_52]; exact hB_49, (hS_1.trans hS_41).trans hS_49⟩
            | exact ⟨by unfold takeG; rw [andR_t c_4, if_pos c_15, if_neg (by omega), andR_t c_52, bz_f c_61], by unfold takeG; rw [andR_t c_4, if_pos c_15, if_neg (by omega), andR_t c_52]; exact hB_58, ((hS_1.trans hS_41).trans hS_49).trans hS_58⟩
            | exact ⟨by unfold takeG; rw [andR_t c_4, if_pos c_15, if_neg (by omega), andR_t c_52, bz_t c_61], by unfold takeG; rw [andR_t c_4, if_pos c_15, if_neg (by omega), andR_t c_52]; exact hB_58, ((hS_1.trans hS_41).trans hS_49).trans hS_58⟩
          · try simp only [b01_0, bz_0, Classical.not_not] at c_61
            refine rj_iconst (pc := 64) dX11_isTakeRead_64 ?_
            refine r_goto (pc := 65) (tgt := 69) dX11_isTakeRead_65 (by decide) ?_
            refine r_ireturn (pc := 69) .boolean dX11_isTakeRead_69 rfl (by first | exact nar_J0 | exact nar_J1 | exact nar_b01 | exact nar_bz) ?_
            first
            | exact ⟨by unfold takeG; rw [andR_t c_4, if_pos c_15, if_neg (by omega), andR_f c_52, bz_f c_52], by unfold takeG; rw [andR_t c_4, if_pos c_15, if_neg (by omega), andR_f c_52]; exact hB_49, (hS_1.trans hS_41).trans hS_49⟩
            | exact ⟨by unfold takeG; rw [andR_t c_4, if_pos c_15, if_neg (by omega), andR_t c_52, bz_f c_61], by unfold takeG; rw [andR_t c_4, if_pos c_15, if_neg (by omega), andR_t c_52]; exact hB_58, ((hS_1.trans hS_41).trans hS_49).trans hS_58⟩
            | exact ⟨by unfold takeG; rw [andR_t c_4, if_pos c_15, if_neg (by omega), andR_t c_52, bz_t c_61], by unfold takeG; rw [andR_t c_4, if_pos c_15, if_neg (by omega), andR_t c_52]; exact hB_58, ((hS_1.trans hS_41).trans hS_49).trans hS_58⟩
      · refine r_aload_n (pc := 25) dX11_isTakeRead_25 rfl (by first | rfl | exact isRefV_rf _) ?_
        refine r_aload_n (pc := 26) dX11_isTakeRead_26 rfl (by first | rfl | exact isRefV_rf _) ?_
        refine rm_getf (pc := 27) dX11_isTakeRead_27 fX11_65 (by assumption) rfl ?_
        refine r_callV1 (pc := 30) dX11_isTakeRead_30 qX11_fails kX11_78 vX11_fails (by exact isM.gx (by assumption)) rfl rfl (Nat.le_of_ble_eq_true rfl) (m_fails (e + d + 2) hB_1 hT (aR_ok hq)) (fun v_30 h_30 q_30 => ?_)
        obtain ⟨rfl, hB_30, hS_30⟩ := q_30
        refine r_ireturn (pc := 33) .boolean dX11_isTakeRead_33 rfl (by first | exact nar_J0 | exact nar_J1 | exact nar_b01 | exact nar_bz) ?_
        exact ⟨by unfold takeG; rw [andR_t c_4, if_pos c_15, if_pos (by omega)]; exact congrArg (fun z => some (Value.int (J z))) (bz_f (b := false) (by decide)).symm, by unfold takeG; rw [andR_t c_4, if_pos c_15, if_pos (by omega)]; exact hB_30, hS_1.trans hS_30⟩
    · refine rj_iconst (pc := 18) dX11_isTakeRead_18 ?_
      refine r_ireturn (pc := 19) .boolean dX11_isTakeRead_19 rfl (by first | exact nar_J0 | exact nar_J1 | exact nar_b01 | exact nar_bz) ?_
      exact ⟨by unfold takeG; rw [andR_t c_4, if_neg c_15]; rw [bz_t rfl], by unfold takeG; rw [andR_t c_4, if_neg c_15]; exact hB_1, hS_1⟩
  · try simp only [b01_0, bz_0, Classical.not_not] at c_4
    refine rj_iconst (pc := 7) dX11_isTakeRead_7 ?_
    refine r_ireturn (pc := 8) .boolean dX11_isTakeRead_8 rfl (by first | exact nar_J0 | exact nar_J1 | exact nar_b01 | exact nar_bz) ?_
    exact ⟨by unfold takeG; rw [andR_f c_4, bz_f c_4], by unfold takeG; rw [andR_f c_4]; exact hB_1, hS_1⟩
def stepR (sr : Nat → Int) (len : Int) (take inner : PS → Bool × PS) (it bh : Bool) (q : PS) : Bool × PS :=
  if stepOk (hereF sr len q.1) it bh q then stepG sr len take inner (hereF sr len q.1) (advF q) else (false, failF q.1 q)
theorem bzF : some (Value.int (J 0)) = some (Value.int (J (bz false))) := by rw [bz_f (by decide)]
theorem bzT : some (Value.int (J 1)) = some (Value.int (J (bz true))) := by rw [bz_t rfl]
theorem bzf {b : Bool} (h : ¬ b = true) : some (Value.int (J 0)) = some (Value.int (J (bz b))) := by rw [bz_f h]
theorem bzt {b : Bool} (h : b = true) : some (Value.int (J 1)) = some (Value.int (J (bz b))) := by rw [bz_t h]
set_option maxHeartbeats 4000000 in
set_option maxRecDepth 100000 in
theorem L_step98 {G : mG} {l : Launch} (n : Nat) {h : mH} {x s : Nat} {f4 f6 f9 f14 f16 f18 : Int} {q : PS} {m kp was pool tape pln pap rwd rw sr : Nat → Int} (hB : isM h x (mFs x f4 f6 q.1 f9 q.2.1 q.2.2.1 q.2.2.2.1 q.2.2.2.2 f14 f16 f18 s) m kp was pool tape pln pap rwd rw) (hT : txOk s sr pool tape f9) (hq : psOk f9 q) {w : Int} {it bh : Bool} {take inner : PS → Bool × PS} (hTk : ∀ (q : PS) (h : mH), isM h x (mFs x f4 f6 q.1 f9 q.2.1 q.2.2.1 q.2.2.2.1 q.2.2.2.2 f14 f16 f18 s) m kp was pool tape pln pap rwd rw → psOk f9 q → RUNM G l (n + 5) mX11_isTakeRead [.ref x, .int (J w)] h (fun v h' => v = some (.int (J (bz (take q).1))) ∧ isM h' x (mFs x f4 f6 ((take q).2).1 f9 ((take q).2).2.1 ((take q).2).2.2.1 ((take q).2).2.2.2.1 ((take q).2).2.2.2.2 f14 f16 f18 s) m kp was pool tape pln pap rwd rw ∧ Same (mBlk x) h h')) (hIn : bh = false → ∀ (q : PS) (h : mH), isM h x (mFs x f4 f6 q.1 f9 q.2.1 q.2.2.1 q.2.2.2.1 q.2.2.2.2 f14 f16 f18 s) m kp was pool tape pln pap rwd rw → psOk f9 q → RUNM G l (n + 5) mX11_isStepRead [.ref x, .int (J w), .int (J 0), .int (J 1)] h (fun v h' => v = some (.int (J (bz (inner q).1))) ∧ isM h' x (mFs x f4 f6 ((inner q).2).1 f9 ((inner q).2).2.1 ((inner q).2).2.2.1 ((inner q).2).2.2.2.1 ((inner q).2).2.2.2.2 f14 f16 f18 s) m kp was pool tape pln pap rwd rw ∧ Same (mBlk x) h h')) : RUN G l (n + 6) mX11_isStepRead 98 [some (.ref x), some (.int (J w)), some (.int (J (bz it))), some (.int (J (bz bh))), some (.int (J (hereF sr f9 q.1))), some (.int (J (b01 (stepOk (hereF sr f9 q.1) it bh q))))] [] h (fun v h' => v = some (.int (J (bz (stepR sr f9 take inner it bh q).1))) ∧ isM h' x (mFs x f4 f6 ((stepR sr f9 take inner it bh q).2).1 f9 ((stepR sr f9 take inner it bh q).2).2.1 ((stepR sr f9 take inner it bh q).2).2.2.1 ((stepR sr f9 take inner it bh q).2).2.2.2.1 ((stepR sr f9 take inner it bh q).2).2.2.2.2 f14 f16 f18 s) m kp was pool tape pln pap rwd rw ∧ Same (mBlk x) h h') := by
  have hB0 := hB
  dsimp only [mFs] at hB
  obtain ⟨hq1, hq2, hq3, hq4, hq5, hq6, hq7, hq8⟩ := id hq
  obtain ⟨hs, hl0, hby⟩ := id hT
  have hh := here_r hT q.1
  refine r_iload (pc := 98) dX11_isStepRead_98 rfl ?_
  refine rj_if_ne (pc := 100) (tgt := 112) dX11_isStepRead_100 (by decide) (by first | assumption | exact b01_r | exact bz_r | omega | (constructor <;> omega) | exact hM _ | exact hPo _ | exact hTa _ | exact hRo _) (fun c_100 => ?_) (fun c_100 => ?_)
  · try simp only [b01_0, bz_0, Classical.not_not] at c_100
    have hl : q.1 < f9 := here_lt (sr := sr) (by rcases c_100 with g | g | g | g | g | g | g | g | g <;> omega)
    refine r_aload_n (pc := 112) dX11_isStepRead_112 rfl (by first | rfl | exact isRefV_rf _) ?_
    refine r_dup (pc := 113) dX11_isStepRead_113 (by first | rfl | (cases ‹Option Nat› <;> rfl)) ?_
    refine rm_getf (pc := 114) dX11_isStepRead_114 fX11_65 (by assumption) rfl ?_
    refine rj_iconst (pc := 117) dX11_isStepRead_117 ?_
    refine rj_iadd (pc := 118) dX11_isStepRead_118 ?_
    refine rm_putf (pc := 119) dX11_isStepRead_119 fX11_65 (by assumption) rfl rfl (Nat.le_of_ble_eq_true rfl) (fun h_119 hB_119 hS_119 => ?_)
    dsimp only [List.set, mFs] at hB_119
    refine r_iload (pc := 122) dX11_isStepRead_122 rfl ?_
    refine rj_lsw (pc := 124) dX11_isStepRead_124 rfl (by first | assumption | exact b01_r | exact bz_r | omega | (constructor <;> omega) | exact hM _ | exact hPo _ | exact hTa _ | exact hRo _) (lsw_pos _ (by decide +kernel) (by decide +kernel)) (fun off_124 tgt_124 ho_124 ht_124 => ?_)
    simp only [Op.lookupswitch.offset_cons, Op.lookupswitch.offset_nil] at ho_124
    by_cases e_124_33 : (33 : Int) = (hereF sr f9 q.1)
    · rw [if_pos e_124_33] at ho_124
      obtain rfl : tgt_124 = 225 := by omega
      refine r_aload_n (pc := 225) dX11_isStepRead_225 rfl (by first | rfl | exact isRefV_rf _) ?_
      refine rj_iconst (pc := 226) dX11_isStepRead_226 ?_
      refine rj_iconst (pc := 227) dX11_isStepRead_227 ?_
      refine rj_bipush (pc := 228) dX11_isStepRead_228 (by decide +kernel) ?_
      refine r_callV3 (pc := 230) dX11_isStepRead_230 qX11_isNumber kX11_85 vX11_isNumber (by exact isM.gx (by assumption)) rfl rfl (Nat.le_of_ble_eq_true rfl) (l_number (q := advF q) (F := 2) (lo := 1) (hi := 99) (n + 2) hB_119 hT (adv_ok hq hl) (by decide) (by decide) (by decide)) (fun v_230 h_230 q_230 => ?_)
      obtain ⟨rfl, hB_230, hS_230⟩ := q_230
      refine r_ireturn (pc := 233) .boolean dX11_isStepRead_233 rfl (by first | exact nar_J0 | exact nar_J1 | exact nar_b01 | exact nar_bz) ?_
      have e : (stepR sr f9 take inner it bh q) = (nR sr f9 2 1 99 (advF q)) := by
        unfold stepR
        rw [if_pos c_100]
        rw [show stepG sr f9 take inner (hereF sr f9 q.1) (advF q) = nR sr f9 2 1 99 (advF q) by rw [← e_124_33]; rfl]
      rw [e]
      exact ⟨rfl, hB_230, (hS_119.trans hS_230)⟩
    rw [if_neg e_124_33] at ho_124
    by_cases e_124_43 : (43 : Int) = (hereF sr f9 q.1)
    · rw [if_pos e_124_43] at ho_124
      obtain rfl : tgt_124 = 192 := by omega
      refine r_aload_n (pc := 192) dX11_isStepRead_192 rfl (by first | rfl | exact isRefV_rf _) ?_
      refine rj_iconst (pc := 193) dX11_isStepRead_193 ?_
      refine rj_iconst (pc := 194) dX11_isStepRead_194 ?_
      refine rj_bipush (pc := 195) dX11_isStepRead_195 (by decide +kernel) ?_
      refine r_callV3 (pc := 197) dX11_isStepRead_197 qX11_isNumber kX11_85 vX11_isNumber (by exact isM.gx (by assumption)) rfl rfl (Nat.le_of_ble_eq_true rfl) (l_number (q := advF q) (F := 1) (lo := 0) (hi := 7) (n + 2) hB_119 hT (adv_ok hq hl) (by decide) (by decide) (by decide)) (fun v_197 h_197 q_197 => ?_)
      obtain ⟨rfl, hB_197, hS_197⟩ := q_197
      refine rj_if_eq (pc := 200) (tgt := 223) dX11_isStepRead_200 (by decide) (by first | assumption | exact b01_r | exact bz_r | omega | (constructor <;> omega) | exact hM _ | exact hPo _ | exact hTa _ | exact hRo _) (fun c_200 => ?_) (fun c_200 => ?_)
      · try simp only [b01_0, bz_0, Classical.not_not] at c_200
        refine rj_iconst (pc := 223) dX11_isStepRead_223 ?_
        refine r_ireturn (pc := 224) .boolean dX11_isStepRead_224 rfl (by first | exact nar_J0 | exact nar_J1 | exact nar_b01 | exact nar_bz) ?_
        have e : (stepR sr f9 take inner it bh q) = (nR sr f9 1 0 7 (advF q)) := by
          unfold stepR
          rw [if_pos c_100]
          rw [show stepG sr f9 take inner (hereF sr f9 q.1) (advF q) = andR (andR (nR sr f9 1 0 7 (advF q)) (gR sr f9 61)) (vR sr f9) by rw [← e_124_43]; rfl]
          rw [andR_f (r := nR sr f9 1 0 7 (advF q)) c_200, andR_f c_200]
        rw [e]
        exact ⟨bzf c_200, hB_197, (hS_119.trans hS_197)⟩
      · try simp only [b01_0, bz_0, Classical.not_not] at c_200
        refine r_aload_n (pc := 203) dX11_isStepRead_203 rfl (by first | rfl | exact isRefV_rf _) ?_
        refine rj_bipush (pc := 204) dX11_isStepRead_204 (by decide +kernel) ?_
        refine r_callV1 (pc := 206) dX11_isStepRead_206 qX11_isSign kX11_96 vX11_isSign (by exact isM.gx (by assumption)) rfl rfl (Nat.le_of_ble_eq_true rfl) (l_sign (q := (nR sr f9 1 0 7 (advF q)).2) (n + 4) hB_197 hT (nR_ok (by decide) (adv_ok hq hl)) (by decide)) (fun v_206 h_206 q_206 => ?_)
        obtain ⟨rfl, hB_206, hS_206⟩ := q_206
        refine rj_if_eq (pc := 209) (tgt := 223) dX11_isStepRead_209 (by decide) (by first | assumption | exact b01_r | exact bz_r | omega | (constructor <;> omega) | exact hM _ | exact hPo _ | exact hTa _ | exact hRo _) (fun c_209 => ?_) (fun c_209 => ?_)
        · try simp only [b01_0, bz_0, Classical.not_not] at c_209
          refine rj_iconst (pc := 223) dX11_isStepRead_223 ?_
          refine r_ireturn (pc := 224) .boolean dX11_isStepRead_224 rfl (by first | exact nar_J0 | exact nar_J1 | exact nar_b01 | exact nar_bz) ?_
          have e : (stepR sr f9 take inner it bh q) = (gR sr f9 61 (nR sr f9 1 0 7 (advF q)).2) := by
            unfold stepR
            rw [if_pos c_100]
            rw [show stepG sr f9 take inner (hereF sr f9 q.1) (advF q) = andR (andR (nR sr f9 1 0 7 (advF q)) (gR sr f9 61)) (vR sr f9) by rw [← e_124_43]; rfl]
            rw [andR_t (r := nR sr f9 1 0 7 (advF q)) c_200, andR_f c_209]
          rw [e]
          exact ⟨bzf c_209, hB_206, ((hS_119.trans hS_197).trans hS_206)⟩
        · try simp only [b01_0, bz_0, Classical.not_not] at c_209
          refine r_aload_n (pc := 212) dX11_isStepRead_212 rfl (by first | rfl | exact isRefV_rf _) ?_
          refine r_callV0 (pc := 213) dX11_isStepRead_213 qX11_isSigned kX11_102 vX11_isSigned (by exact isM.gx (by assumption)) rfl rfl (Nat.le_of_ble_eq_true rfl) (l_signed (q := (gR sr f9 61 (nR sr f9 1 0 7 (advF q)).2).2) (n + 1) hB_206 hT (gR_ok (by decide) (nR_ok (by decide) (adv_ok hq hl)))) (fun v_213 h_213 q_213 => ?_)
          obtain ⟨rfl, hB_213, hS_213⟩ := q_213
          refine rj_if_eq (pc := 216) (tgt := 223) dX11_isStepRead_216 (by decide) (by first | assumption | exact b01_r | exact bz_r | omega | (constructor <;> omega) | exact hM _ | exact hPo _ | exact hTa _ | exact hRo _) (fun c_216 => ?_) (fun c_216 => ?_)
          · try simp only [b01_0, bz_0, Classical.not_not] at c_216
            refine rj_iconst (pc := 223) dX11_isStepRead_223 ?_
            refine r_ireturn (pc := 224) .boolean dX11_isStepRead_224 rfl (by first | exact nar_J0 | exact nar_J1 | exact nar_b01 | exact nar_bz) ?_
            have e : (stepR sr f9 take inner it bh q) = (vR sr f9 (gR sr f9 61 (nR sr f9 1 0 7 (advF q)).2).2) := by
              unfold stepR
              rw [if_pos c_100]
              rw [show stepG sr f9 take inner (hereF sr f9 q.1) (advF q) = andR (andR (nR sr f9 1 0 7 (advF q)) (gR sr f9 61)) (vR sr f9) by rw [← e_124_43]; rfl]
              rw [andR_t (r := nR sr f9 1 0 7 (advF q)) c_200, andR_t c_209]
            rw [e]
            exact ⟨bzf c_216, hB_213, (((hS_119.trans hS_197).trans hS_206).trans hS_213)⟩
          · try simp only [b01_0, bz_0, Classical.not_not] at c_216
            refine rj_iconst (pc := 219) dX11_isStepRead_219 ?_
            refine r_goto (pc := 220) (tgt := 224) dX11_isStepRead_220 (by decide) ?_
            refine r_ireturn (pc := 224) .boolean dX11_isStepRead_224 rfl (by first | exact nar_J0 | exact nar_J1 | exact nar_b01 | exact nar_bz) ?_
            have e : (stepR sr f9 take inner it bh q) = (vR sr f9 (gR sr f9 61 (nR sr f9 1 0 7 (advF q)).2).2) := by
              unfold stepR
              rw [if_pos c_100]
              rw [show stepG sr f9 take inner (hereF sr f9 q.1) (advF q) = andR (andR (nR sr f9 1 0 7 (advF q)) (gR sr f9 61)) (vR sr f9) by rw [← e_124_43]; rfl]
              rw [andR_t (r := nR sr f9 1 0 7 (advF q)) c_200, andR_t c_209]
            rw [e]
            exact ⟨bzt c_216, hB_213, (((hS_119.trans hS_197).trans hS_206).trans hS_213)⟩
    rw [if_neg e_124_43] at ho_124
    by_cases e_124_63 : (63 : Int) = (hereF sr f9 q.1)
    · rw [if_pos e_124_63] at ho_124
      obtain rfl : tgt_124 = 287 := by omega
      have hbh : bh = false := by
        rcases c_100 with g | g | g | g | g | g | g | ⟨g1, g2⟩ | ⟨g1 | ⟨g1, g3⟩, g2⟩ <;> first | (exfalso; omega) | exact g2
      refine r_aload_n (pc := 287) dX11_isStepRead_287 rfl (by first | rfl | exact isRefV_rf _) ?_
      refine rj_iconst (pc := 288) dX11_isStepRead_288 ?_
      refine rj_iconst (pc := 289) dX11_isStepRead_289 ?_
      refine rj_bipush (pc := 290) dX11_isStepRead_290 (by decide +kernel) ?_
      refine r_callV3 (pc := 292) dX11_isStepRead_292 qX11_isNumber kX11_85 vX11_isNumber (by exact isM.gx (by assumption)) rfl rfl (Nat.le_of_ble_eq_true rfl) (l_number (q := advF q) (F := 1) (lo := 0) (hi := 7) (n + 2) hB_119 hT (adv_ok hq hl) (by decide) (by decide) (by decide)) (fun v_292 h_292 q_292 => ?_)
      obtain ⟨rfl, hB_292, hS_292⟩ := q_292
      refine rj_if_eq (pc := 295) (tgt := 337) dX11_isStepRead_295 (by decide) (by first | assumption | exact b01_r | exact bz_r | omega | (constructor <;> omega) | exact hM _ | exact hPo _ | exact hTa _ | exact hRo _) (fun c_295 => ?_) (fun c_295 => ?_)
      · try simp only [b01_0, bz_0, Classical.not_not] at c_295
        refine rj_iconst (pc := 337) dX11_isStepRead_337 ?_
        refine r_ireturn (pc := 338) .boolean dX11_isStepRead_338 rfl (by first | exact nar_J0 | exact nar_J1 | exact nar_b01 | exact nar_bz) ?_
        have e : (stepR sr f9 take inner it bh q) = (nR sr f9 1 0 7 (advF q)) := by
          unfold stepR
          rw [if_pos c_100]
          rw [show stepG sr f9 take inner (hereF sr f9 q.1) (advF q) = andR (andR (andR (andR (nR sr f9 1 0 7 (advF q)) (gR sr f9 60)) (vR sr f9)) (gR sr f9 58)) inner by rw [← e_124_63]; rfl]
          rw [andR_f (r := nR sr f9 1 0 7 (advF q)) c_295, andR_f c_295, andR_f c_295, andR_f c_295]
        rw [e]
        exact ⟨bzf c_295, hB_292, (hS_119.trans hS_292)⟩
      · try simp only [b01_0, bz_0, Classical.not_not] at c_295
        refine r_aload_n (pc := 298) dX11_isStepRead_298 rfl (by first | rfl | exact isRefV_rf _) ?_
        refine rj_bipush (pc := 299) dX11_isStepRead_299 (by decide +kernel) ?_
        refine r_callV1 (pc := 301) dX11_isStepRead_301 qX11_isSign kX11_96 vX11_isSign (by exact isM.gx (by assumption)) rfl rfl (Nat.le_of_ble_eq_true rfl) (l_sign (q := (nR sr f9 1 0 7 (advF q)).2) (n + 4) hB_292 hT (nR_ok (by decide) (adv_ok hq hl)) (by decide)) (fun v_301 h_301 q_301 => ?_)
        obtain ⟨rfl, hB_301, hS_301⟩ := q_301
        refine rj_if_eq (pc := 304) (tgt := 337) dX11_isStepRead_304 (by decide) (by first | assumption | exact b01_r | exact bz_r | omega | (constructor <;> omega) | exact hM _ | exact hPo _ | exact hTa _ | exact hRo _) (fun c_304 => ?_) (fun c_304 => ?_)
        · try simp only [b01_0, bz_0, Classical.not_not] at c_304
          refine rj_iconst (pc := 337) dX11_isStepRead_337 ?_
          refine r_ireturn (pc := 338) .boolean dX11_isStepRead_338 rfl (by first | exact nar_J0 | exact nar_J1 | exact nar_b01 | exact nar_bz) ?_
          have e : (stepR sr f9 take inner it bh q) = (gR sr f9 60 (nR sr f9 1 0 7 (advF q)).2) := by
            unfold stepR
            rw [if_pos c_100]
            rw [show stepG sr f9 take inner (hereF sr f9 q.1) (advF q) = andR (andR (andR (andR (nR sr f9 1 0 7 (advF q)) (gR sr f9 60)) (vR sr f9)) (gR sr f9 58)) inner by rw [← e_124_63]; rfl]
            rw [andR_t (r := nR sr f9 1 0 7 (advF q)) c_295, andR_f c_304, andR_f c_304, andR_f c_304]
          rw [e]
          exact ⟨bzf c_304, hB_301, ((hS_119.trans hS_292).trans hS_301)⟩
        · try simp only [b01_0, bz_0, Classical.not_not] at c_304
          refine r_aload_n (pc := 307) dX11_isStepRead_307 rfl (by first | rfl | exact isRefV_rf _) ?_
          refine r_callV0 (pc := 308) dX11_isStepRead_308 qX11_isSigned kX11_102 vX11_isSigned (by exact isM.gx (by assumption)) rfl rfl (Nat.le_of_ble_eq_true rfl) (l_signed (q := (gR sr f9 60 (nR sr f9 1 0 7 (advF q)).2).2) (n + 1) hB_301 hT (gR_ok (by decide) (nR_ok (by decide) (adv_ok hq hl)))) (fun v_308 h_308 q_308 => ?_)
          obtain ⟨rfl, hB_308, hS_308⟩ := q_308
          refine rj_if_eq (pc := 311) (tgt := 337) dX11_isStepRead_311 (by decide) (by first | assumption | exact b01_r | exact bz_r | omega | (constructor <;> omega) | exact hM _ | exact hPo _ | exact hTa _ | exact hRo _) (fun c_311 => ?_) (fun c_311 => ?_)
          · try simp only [b01_0, bz_0, Classical.not_not] at c_311
            refine rj_iconst (pc := 337) dX11_isStepRead_337 ?_
            refine r_ireturn (pc := 338) .boolean dX11_isStepRead_338 rfl (by first | exact nar_J0 | exact nar_J1 | exact nar_b01 | exact nar_bz) ?_
            have e : (stepR sr f9 take inner it bh q) = (vR sr f9 (gR sr f9 60 (nR sr f9 1 0 7 (advF q)).2).2) := by
              unfold stepR
              rw [if_pos c_100]
              rw [show stepG sr f9 take inner (hereF sr f9 q.1) (advF q) = andR (andR (andR (andR (nR sr f9 1 0 7 (advF q)) (gR sr f9 60)) (vR sr f9)) (gR sr f9 58)) inner by rw [← e_124_63]; rfl]
              rw [andR_t (r := nR sr f9 1 0 7 (advF q)) c_295, andR_t c_304, andR_f c_311, andR_f c_311]
            rw [e]
            exact ⟨bzf c_311, hB_308, (((hS_119.trans hS_292).trans hS_301).trans hS_308)⟩
          · try simp only [b01_0, bz_0, Classical.not_not] at c_311
            refine r_aload_n (pc := 314) dX11_isStepRead_314 rfl (by first | rfl | exact isRefV_rf _) ?_
            refine rj_bipush (pc := 315) dX11_isStepRead_315 (by decide +kernel) ?_
            refine r_callV1 (pc := 317) dX11_isStepRead_317 qX11_isSign kX11_96 vX11_isSign (by exact isM.gx (by assumption)) rfl rfl (Nat.le_of_ble_eq_true rfl) (l_sign (q := (vR sr f9 (gR sr f9 60 (nR sr f9 1 0 7 (advF q)).2).2).2) (n + 4) hB_308 hT (vR_ok (gR_ok (by decide) (nR_ok (by decide) (adv_ok hq hl)))) (by decide)) (fun v_317 h_317 q_317 => ?_)
            obtain ⟨rfl, hB_317, hS_317⟩ := q_317
            refine rj_if_eq (pc := 320) (tgt := 337) dX11_isStepRead_320 (by decide) (by first | assumption | exact b01_r | exact bz_r | omega | (constructor <;> omega) | exact hM _ | exact hPo _ | exact hTa _ | exact hRo _) (fun c_320 => ?_) (fun c_320 => ?_)
            · try simp only [b01_0, bz_0, Classical.not_not] at c_320
              refine rj_iconst (pc := 337) dX11_isStepRead_337 ?_
              refine r_ireturn (pc := 338) .boolean dX11_isStepRead_338 rfl (by first | exact nar_J0 | exact nar_J1 | exact nar_b01 | exact nar_bz) ?_
              have e : (stepR sr f9 take inner it bh q) = (gR sr f9 58 (vR sr f9 (gR sr f9 60 (nR sr f9 1 0 7 (advF q)).2).2).2) := by
                unfold stepR
                rw [if_pos c_100]
                rw [show stepG sr f9 take inner (hereF sr f9 q.1) (advF q) = andR (andR (andR (andR (nR sr f9 1 0 7 (advF q)) (gR sr f9 60)) (vR sr f9)) (gR sr f9 58)) inner by rw [← e_124_63]; rfl]
                rw [andR_t (r := nR sr f9 1 0 7 (advF q)) c_295, andR_t c_304, andR_t c_311, andR_f c_320]
              rw [e]
              exact ⟨bzf c_320, hB_317, ((((hS_119.trans hS_292).trans hS_301).trans hS_308).trans hS_317)⟩
            · try simp only [b01_0, bz_0, Classical.not_not] at c_320
              refine r_aload_n (pc := 323) dX11_isStepRead_323 rfl (by first | rfl | exact isRefV_rf _) ?_
              refine r_iload_n (pc := 324) dX11_isStepRead_324 rfl ?_
              refine rj_iconst (pc := 325) dX11_isStepRead_325 ?_
              refine rj_iconst (pc := 326) dX11_isStepRead_326 ?_
              refine r_callV3 (pc := 327) dX11_isStepRead_327 qX11_isStepRead kX11_108 vX11_isStepRead (by exact isM.gx (by assumption)) rfl rfl (Nat.le_of_ble_eq_true rfl) (hIn hbh (gR sr f9 58 (vR sr f9 (gR sr f9 60 (nR sr f9 1 0 7 (advF q)).2).2).2).2 _ hB_317 (gR_ok (by decide) (vR_ok (gR_ok (by decide) (nR_ok (by decide) (adv_ok hq hl)))))) (fun v_327 h_327 q_327 => ?_)
              obtain ⟨rfl, hB_327, hS_327⟩ := q_327
              refine rj_if_eq (pc := 330) (tgt := 337) dX11_isStepRead_330 (by decide) (by first | assumption | exact b01_r | exact bz_r | omega | (constructor <;> omega) | exact hM _ | exact hPo _ | exact hTa _ | exact hRo _) (fun c_330 => ?_) (fun c_330 => ?_)
              · try simp only [b01_0, bz_0, Classical.not_not] at c_330
                refine rj_iconst (pc := 337) dX11_isStepRead_337 ?_
                refine r_ireturn (pc := 338) .boolean dX11_isStepRead_338 rfl (by first | exact nar_J0 | exact nar_J1 | exact nar_b01 | exact nar_bz) ?_
                have e : (stepR sr f9 take inner it bh q) = (inner (gR sr f9 58 (vR sr f9 (gR sr f9 60 (nR sr f9 1 0 7 (advF q)).2).2).2).2) := by
                  unfold stepR
                  rw [if_pos c_100]
                  rw [show stepG sr f9 take inner (hereF sr f9 q.1) (advF q) = andR (andR (andR (andR (nR sr f9 1 0 7 (advF q)) (gR sr f9 60)) (vR sr f9)) (gR sr f9 58)) inner by rw [← e_124_63]; rfl]
                  rw [andR_t (r := nR sr f9 1 0 7 (advF q)) c_295, andR_t c_304, andR_t c_311, andR_t c_320]
                rw [e]
                exact ⟨bzf c_330, hB_327, (((((hS_119.trans hS_292).trans hS_301).trans hS_308).trans hS_317).trans hS_327)⟩
              · try simp only [b01_0, bz_0, Classical.not_not] at c_330
                refine rj_iconst (pc := 333) dX11_isStepRead_333 ?_
                refine r_goto (pc := 334) (tgt := 338) dX11_isStepRead_334 (by decide) ?_
                refine r_ireturn (pc := 338) .boolean dX11_isStepRead_338 rfl (by first | exact nar_J0 | exact nar_J1 | exact nar_b01 | exact nar_bz) ?_
                have e : (stepR sr f9 take inner it bh q) = (inner (gR sr f9 58 (vR sr f9 (gR sr f9 60 (nR sr f9 1 0 7 (advF q)).2).2).2).2) := by
                  unfold stepR
                  rw [if_pos c_100]
                  rw [show stepG sr f9 take inner (hereF sr f9 q.1) (advF q) = andR (andR (andR (andR (nR sr f9 1 0 7 (advF q)) (gR sr f9 60)) (vR sr f9)) (gR sr f9 58)) inner by rw [← e_124_63]; rfl]
                  rw [andR_t (r := nR sr f9 1 0 7 (advF q)) c_295, andR_t c_304, andR_t c_311, andR_t c_320]
                rw [e]
                exact ⟨bzt c_330, hB_327, (((((hS_119.trans hS_292).trans hS_301).trans hS_308).trans hS_317).trans hS_327)⟩
    rw [if_neg e_124_63] at ho_124
    by_cases e_124_97 : (97 : Int) = (hereF sr f9 q.1)
    · rw [if_pos e_124_97] at ho_124
      obtain rfl : tgt_124 = 234 := by omega
      refine r_aload_n (pc := 234) dX11_isStepRead_234 rfl (by first | rfl | exact isRefV_rf _) ?_
      refine r_iload_n (pc := 235) dX11_isStepRead_235 rfl ?_
      refine r_callV1 (pc := 236) dX11_isStepRead_236 qX11_isTakeRead kX11_105 vX11_isTakeRead (by exact isM.gx (by assumption)) rfl rfl (Nat.le_of_ble_eq_true rfl) (hTk (advF q) _ hB_119 (adv_ok hq hl)) (fun v_236 h_236 q_236 => ?_)
      obtain ⟨rfl, hB_236, hS_236⟩ := q_236
      refine r_ireturn (pc := 239) .boolean dX11_isStepRead_239 rfl (by first | exact nar_J0 | exact nar_J1 | exact nar_b01 | exact nar_bz) ?_
      have e : (stepR sr f9 take inner it bh q) = (take (advF q)) := by
        unfold stepR
        rw [if_pos c_100]
        rw [show stepG sr f9 take inner (hereF sr f9 q.1) (advF q) = take (advF q) by rw [← e_124_97]; rfl]
      rw [e]
      exact ⟨rfl, hB_236, (hS_119.trans hS_236)⟩
    rw [if_neg e_124_97] at ho_124
    by_cases e_124_107 : (107 : Int) = (hereF sr f9 q.1)
    · rw [if_pos e_124_107] at ho_124
      obtain rfl : tgt_124 = 278 := by omega
      refine r_aload_n (pc := 278) dX11_isStepRead_278 rfl (by first | rfl | exact isRefV_rf _) ?_
      refine rj_iconst (pc := 279) dX11_isStepRead_279 ?_
      refine rj_iconst (pc := 280) dX11_isStepRead_280 ?_
      refine rj_bipush (pc := 281) dX11_isStepRead_281 (by decide +kernel) ?_
      refine r_callV3 (pc := 283) dX11_isStepRead_283 qX11_isNumber kX11_85 vX11_isNumber (by exact isM.gx (by assumption)) rfl rfl (Nat.le_of_ble_eq_true rfl) (l_number (q := advF q) (F := 1) (lo := 0) (hi := 9) (n + 2) hB_119 hT (adv_ok hq hl) (by decide) (by decide) (by decide)) (fun v_283 h_283 q_283 => ?_)
      obtain ⟨rfl, hB_283, hS_283⟩ := q_283
      refine r_ireturn (pc := 286) .boolean dX11_isStepRead_286 rfl (by first | exact nar_J0 | exact nar_J1 | exact nar_b01 | exact nar_bz) ?_
      have e : (stepR sr f9 take inner it bh q) = (nR sr f9 1 0 9 (advF q)) := by
        unfold stepR
        rw [if_pos c_100]
        rw [show stepG sr f9 take inner (hereF sr f9 q.1) (advF q) = nR sr f9 1 0 9 (advF q) by rw [← e_124_107]; rfl]
      rw [e]
      exact ⟨rfl, hB_283, (hS_119.trans hS_283)⟩
    rw [if_neg e_124_107] at ho_124
    by_cases e_124_109 : (109 : Int) = (hereF sr f9 q.1)
    · rw [if_pos e_124_109] at ho_124
      obtain rfl : tgt_124 = 245 := by omega
      refine r_aload_n (pc := 245) dX11_isStepRead_245 rfl (by first | rfl | exact isRefV_rf _) ?_
      refine r_callV0 (pc := 246) dX11_isStepRead_246 qX11_isName kX11_88 vX11_isName (by exact isM.gx (by assumption)) rfl rfl (Nat.le_of_ble_eq_true rfl) (l_name (q := advF q) (n + 3) hB_119 hT (adv_ok hq hl)) (fun v_246 h_246 q_246 => ?_)
      obtain ⟨rfl, hB_246, hS_246⟩ := q_246
      refine rj_if_eq (pc := 249) (tgt := 276) dX11_isStepRead_249 (by decide) (by first | assumption | exact b01_r | exact bz_r | omega | (constructor <;> omega) | exact hM _ | exact hPo _ | exact hTa _ | exact hRo _) (fun c_249 => ?_) (fun c_249 => ?_)
      · try simp only [b01_0, bz_0, Classical.not_not] at c_249
        refine rj_iconst (pc := 276) dX11_isStepRead_276 ?_
        refine r_ireturn (pc := 277) .boolean dX11_isStepRead_277 rfl (by first | exact nar_J0 | exact nar_J1 | exact nar_b01 | exact nar_bz) ?_
        have e : (stepR sr f9 take inner it bh q) = (aR sr f9 (advF q)) := by
          unfold stepR
          rw [if_pos c_100]
          rw [show stepG sr f9 take inner (hereF sr f9 q.1) (advF q) = andR (andR (aR sr f9 (advF q)) (gR sr f9 62)) (nR sr f9 2 0 99) by rw [← e_124_109]; rfl]
          rw [andR_f (r := aR sr f9 (advF q)) c_249, andR_f c_249]
        rw [e]
        exact ⟨bzf c_249, hB_246, (hS_119.trans hS_246)⟩
      · try simp only [b01_0, bz_0, Classical.not_not] at c_249
        refine r_aload_n (pc := 252) dX11_isStepRead_252 rfl (by first | rfl | exact isRefV_rf _) ?_
        refine rj_bipush (pc := 253) dX11_isStepRead_253 (by decide +kernel) ?_
        refine r_callV1 (pc := 255) dX11_isStepRead_255 qX11_isSign kX11_96 vX11_isSign (by exact isM.gx (by assumption)) rfl rfl (Nat.le_of_ble_eq_true rfl) (l_sign (q := (aR sr f9 (advF q)).2) (n + 4) hB_246 hT (aR_ok (adv_ok hq hl)) (by decide)) (fun v_255 h_255 q_255 => ?_)
        obtain ⟨rfl, hB_255, hS_255⟩ := q_255
        refine rj_if_eq (pc := 258) (tgt := 276) dX11_isStepRead_258 (by decide) (by first | assumption | exact b01_r | exact bz_r | omega | (constructor <;> omega) | exact hM _ | exact hPo _ | exact hTa _ | exact hRo _) (fun c_258 => ?_) (fun c_258 => ?_)
        · try simp only [b01_0, bz_0, Classical.not_not] at c_258
          refine rj_iconst (pc := 276) dX11_isStepRead_276 ?_
          refine r_ireturn (pc := 277) .boolean dX11_isStepRead_277 rfl (by first | exact nar_J0 | exact nar_J1 | exact nar_b01 | exact nar_bz) ?_
          have e : (stepR sr f9 take inner it bh q) = (gR sr f9 62 (aR sr f9 (advF q)).2) := by
            unfold stepR
            rw [if_pos c_100]
            rw [show stepG sr f9 take inner (hereF sr f9 q.1) (advF q) = andR (andR (aR sr f9 (advF q)) (gR sr f9 62)) (nR sr f9 2 0 99) by rw [← e_124_109]; rfl]
            rw [andR_t (r := aR sr f9 (advF q)) c_249, andR_f c_258]
          rw [e]
          exact ⟨bzf c_258, hB_255, ((hS_119.trans hS_246).trans hS_255)⟩
        · try simp only [b01_0, bz_0, Classical.not_not] at c_258
          refine r_aload_n (pc := 261) dX11_isStepRead_261 rfl (by first | rfl | exact isRefV_rf _) ?_
          refine rj_iconst (pc := 262) dX11_isStepRead_262 ?_
          refine rj_iconst (pc := 263) dX11_isStepRead_263 ?_
          refine rj_bipush (pc := 264) dX11_isStepRead_264 (by decide +kernel) ?_
          refine r_callV3 (pc := 266) dX11_isStepRead_266 qX11_isNumber kX11_85 vX11_isNumber (by exact isM.gx (by assumption)) rfl rfl (Nat.le_of_ble_eq_true rfl) (l_number (q := (gR sr f9 62 (aR sr f9 (advF q)).2).2) (F := 2) (lo := 0) (hi := 99) (n + 2) hB_255 hT (gR_ok (by decide) (aR_ok (adv_ok hq hl))) (by decide) (by decide) (by decide)) (fun v_266 h_266 q_266 => ?_)
          obtain ⟨rfl, hB_266, hS_266⟩ := q_266
          refine rj_if_eq (pc := 269) (tgt := 276) dX11_isStepRead_269 (by decide) (by first | assumption | exact b01_r | exact bz_r | omega | (constructor <;> omega) | exact hM _ | exact hPo _ | exact hTa _ | exact hRo _) (fun c_269 => ?_) (fun c_269 => ?_)
          · try simp only [b01_0, bz_0, Classical.not_not] at c_269
            refine rj_iconst (pc := 276) dX11_isStepRead_276 ?_
            refine r_ireturn (pc := 277) .boolean dX11_isStepRead_277 rfl (by first | exact nar_J0 | exact nar_J1 | exact nar_b01 | exact nar_bz) ?_
            have e : (stepR sr f9 take inner it bh q) = (nR sr f9 2 0 99 (gR sr f9 62 (aR sr f9 (advF q)).2).2) := by
              unfold stepR
              rw [if_pos c_100]
              rw [show stepG sr f9 take inner (hereF sr f9 q.1) (advF q) = andR (andR (aR sr f9 (advF q)) (gR sr f9 62)) (nR sr f9 2 0 99) by rw [← e_124_109]; rfl]
              rw [andR_t (r := aR sr f9 (advF q)) c_249, andR_t c_258]
            rw [e]
            exact ⟨bzf c_269, hB_266, (((hS_119.trans hS_246).trans hS_255).trans hS_266)⟩
          · try simp only [b01_0, bz_0, Classical.not_not] at c_269
            refine rj_iconst (pc := 272) dX11_isStepRead_272 ?_
            refine r_goto (pc := 273) (tgt := 277) dX11_isStepRead_273 (by decide) ?_
            refine r_ireturn (pc := 277) .boolean dX11_isStepRead_277 rfl (by first | exact nar_J0 | exact nar_J1 | exact nar_b01 | exact nar_bz) ?_
            have e : (stepR sr f9 take inner it bh q) = (nR sr f9 2 0 99 (gR sr f9 62 (aR sr f9 (advF q)).2).2) := by
              unfold stepR
              rw [if_pos c_100]
              rw [show stepG sr f9 take inner (hereF sr f9 q.1) (advF q) = andR (andR (aR sr f9 (advF q)) (gR sr f9 62)) (nR sr f9 2 0 99) by rw [← e_124_109]; rfl]
              rw [andR_t (r := aR sr f9 (advF q)) c_249, andR_t c_258]
            rw [e]
            exact ⟨bzt c_269, hB_266, (((hS_119.trans hS_246).trans hS_255).trans hS_266)⟩
    rw [if_neg e_124_109] at ho_124
    by_cases e_124_120 : (120 : Int) = (hereF sr f9 q.1)
    · rw [if_pos e_124_120] at ho_124
      obtain rfl : tgt_124 = 240 := by omega
      refine r_aload_n (pc := 240) dX11_isStepRead_240 rfl (by first | rfl | exact isRefV_rf _) ?_
      refine r_callV0 (pc := 241) dX11_isStepRead_241 qX11_isName kX11_88 vX11_isName (by exact isM.gx (by assumption)) rfl rfl (Nat.le_of_ble_eq_true rfl) (l_name (q := advF q) (n + 3) hB_119 hT (adv_ok hq hl)) (fun v_241 h_241 q_241 => ?_)
      obtain ⟨rfl, hB_241, hS_241⟩ := q_241
      refine r_ireturn (pc := 244) .boolean dX11_isStepRead_244 rfl (by first | exact nar_J0 | exact nar_J1 | exact nar_b01 | exact nar_bz) ?_
      have e : (stepR sr f9 take inner it bh q) = (aR sr f9 (advF q)) := by
        unfold stepR
        rw [if_pos c_100]
        rw [show stepG sr f9 take inner (hereF sr f9 q.1) (advF q) = (aR sr f9 (advF q)) by rw [← e_124_120]; rfl]
      rw [e]
      exact ⟨rfl, hB_241, (hS_119.trans hS_241)⟩
    rw [if_neg e_124_120] at ho_124
    obtain rfl : tgt_124 = 339 := by omega
    refine r_aload_n (pc := 339) dX11_isStepRead_339 rfl (by first | rfl | exact isRefV_rf _) ?_
    refine r_dup (pc := 340) dX11_isStepRead_340 (by first | rfl | (cases ‹Option Nat› <;> rfl)) ?_
    refine rm_getf (pc := 341) dX11_isStepRead_341 fX11_99 (by assumption) rfl ?_
    refine r_iload (pc := 344) dX11_isStepRead_344 rfl ?_
    refine rj_bipush (pc := 346) dX11_isStepRead_346 (by decide +kernel) ?_
    refine rj_icmp_ne (pc := 348) (tgt := 355) dX11_isStepRead_348 (by decide) (by first | assumption | exact b01_r | exact bz_r | omega | (constructor <;> omega) | exact hM _ | exact hPo _ | exact hTa _ | exact hRo _) (by first | assumption | exact b01_r | exact bz_r | omega | (constructor <;> omega) | exact hM _ | exact hPo _ | exact hTa _ | exact hRo _) (fun c_348 => ?_) (fun c_348 => ?_)
    · refine r_iload (pc := 355) dX11_isStepRead_355 rfl ?_
      refine rj_bipush (pc := 357) dX11_isStepRead_357 (by decide +kernel) ?_
      refine rj_icmp_ne (pc := 359) (tgt := 366) dX11_isStepRead_359 (by decide) (by first | assumption | exact b01_r | exact bz_r | omega | (constructor <;> omega) | exact hM _ | exact hPo _ | exact hTa _ | exact hRo _) (by first | assumption | exact b01_r | exact bz_r | omega | (constructor <;> omega) | exact hM _ | exact hPo _ | exact hTa _ | exact hRo _) (fun c_359 => ?_) (fun c_359 => ?_)
      · refine rj_iconst (pc := 366) dX11_isStepRead_366 ?_
        refine rj_iadd (pc := 367) dX11_isStepRead_367 ?_
        refine rm_putf (pc := 368) dX11_isStepRead_368 fX11_99 (by assumption) rfl rfl (Nat.le_of_ble_eq_true rfl) (fun h_368 hB_368 hS_368 => ?_)
        dsimp only [List.set, mFs] at hB_368
        refine rj_iconst (pc := 371) dX11_isStepRead_371 ?_
        refine r_ireturn (pc := 372) .boolean dX11_isStepRead_372 rfl (by first | exact nar_J0 | exact nar_J1 | exact nar_b01 | exact nar_bz) ?_
        have e : (stepR sr f9 take inner it bh q) = (true, openF (hereF sr f9 q.1) (advF q)) := by
          unfold stepR
          rw [if_pos c_100]
          unfold stepG
          rw [if_neg (fun g => e_124_43 g.symm), if_neg (fun g => e_124_33 g.symm), if_neg (fun g => e_124_97 g.symm), if_neg (fun g => e_124_120 g.symm), if_neg (fun g => e_124_109 g.symm), if_neg (fun g => e_124_107 g.symm), if_neg (fun g => e_124_63 g.symm)]
        rw [e]
        refine ⟨bzT, ?_, hS_119.trans hS_368⟩
        unfold openF
        rw [if_neg c_348, if_neg c_359]
        exact hB_368
      · refine rj_iconst (pc := 362) dX11_isStepRead_362 ?_
        refine r_goto (pc := 363) (tgt := 367) dX11_isStepRead_363 (by decide) ?_
        refine rj_iadd (pc := 367) dX11_isStepRead_367 ?_
        refine rm_putf (pc := 368) dX11_isStepRead_368 fX11_99 (by assumption) rfl rfl (Nat.le_of_ble_eq_true rfl) (fun h_368 hB_368 hS_368 => ?_)
        dsimp only [List.set, mFs] at hB_368
        refine rj_iconst (pc := 371) dX11_isStepRead_371 ?_
        refine r_ireturn (pc := 372) .boolean dX11_isStepRead_372 rfl (by first | exact nar_J0 | exact nar_J1 | exact nar_b01 | exact nar_bz) ?_
        have e : (stepR sr f9 take inner it bh q) = (true, openF (hereF sr f9 q.1) (advF q)) := by
          unfold stepR
          rw [if_pos c_100]
          unfold stepG
          rw [if_neg (fun g => e_124_43 g.symm), if_neg (fun g => e_124_33 g.symm), if_neg (fun g => e_124_97 g.symm), if_neg (fun g => e_124_120 g.symm), if_neg (fun g => e_124_109 g.symm), if_neg (fun g => e_124_107 g.symm), if_neg (fun g => e_124_63 g.symm)]
        rw [e]
        refine ⟨bzT, ?_, hS_119.trans hS_368⟩
        unfold openF
        rw [if_neg c_348, if_pos c_359]
        exact hB_368
    · refine rj_iconst (pc := 351) dX11_isStepRead_351 ?_
      refine r_goto (pc := 352) (tgt := 367) dX11_isStepRead_352 (by decide) ?_
      refine rj_iadd (pc := 367) dX11_isStepRead_367 ?_
      refine rm_putf (pc := 368) dX11_isStepRead_368 fX11_99 (by assumption) rfl rfl (Nat.le_of_ble_eq_true rfl) (fun h_368 hB_368 hS_368 => ?_)
      dsimp only [List.set, mFs] at hB_368
      refine rj_iconst (pc := 371) dX11_isStepRead_371 ?_
      refine r_ireturn (pc := 372) .boolean dX11_isStepRead_372 rfl (by first | exact nar_J0 | exact nar_J1 | exact nar_b01 | exact nar_bz) ?_
      have e : (stepR sr f9 take inner it bh q) = (true, openF (hereF sr f9 q.1) (advF q)) := by
        unfold stepR
        rw [if_pos c_100]
        unfold stepG
        rw [if_neg (fun g => e_124_43 g.symm), if_neg (fun g => e_124_33 g.symm), if_neg (fun g => e_124_97 g.symm), if_neg (fun g => e_124_120 g.symm), if_neg (fun g => e_124_109 g.symm), if_neg (fun g => e_124_107 g.symm), if_neg (fun g => e_124_63 g.symm)]
      rw [e]
      refine ⟨bzT, ?_, hS_119.trans hS_368⟩
      unfold openF
      rw [if_pos c_348]
      exact hB_368
  · try simp only [b01_0, bz_0, Classical.not_not] at c_100
    refine r_aload_n (pc := 103) dX11_isStepRead_103 rfl (by first | rfl | exact isRefV_rf _) ?_
    refine r_aload_n (pc := 104) dX11_isStepRead_104 rfl (by first | rfl | exact isRefV_rf _) ?_
    refine rm_getf (pc := 105) dX11_isStepRead_105 fX11_65 (by assumption) rfl ?_
    refine r_callV1 (pc := 108) dX11_isStepRead_108 qX11_fails kX11_78 vX11_fails (by exact isM.gx (by assumption)) rfl rfl (Nat.le_of_ble_eq_true rfl) (m_fails (n + 5) hB0 hT hq) (fun v_108 h_108 q_108 => ?_)
    obtain ⟨rfl, hB_108, hS_108⟩ := q_108
    refine r_ireturn (pc := 111) .boolean dX11_isStepRead_111 rfl (by first | exact nar_J0 | exact nar_J1 | exact nar_b01 | exact nar_bz) ?_
    have e : (stepR sr f9 take inner it bh q) = (false, failF q.1 q) := by unfold stepR; rw [if_neg c_100]
    rw [e]
    exact ⟨bzF, hB_108, hS_108⟩
set_option maxHeartbeats 4000000 in
set_option maxRecDepth 100000 in
theorem m_isStepRead {G : mG} {l : Launch} (d : Nat) {h : mH} {x s : Nat} {f4 f6 f9 f14 f16 f18 : Int} {q : PS} {m kp was pool tape pln pap rwd rw sr : Nat → Int} (hB : isM h x (mFs x f4 f6 q.1 f9 q.2.1 q.2.2.1 q.2.2.2.1 q.2.2.2.2 f14 f16 f18 s) m kp was pool tape pln pap rwd rw) (hT : txOk s sr pool tape f9) (hq : psOk f9 q) {n : Nat} {w : Int} {it bh : Bool} {take inner : PS → Bool × PS} (hTk : ∀ (q : PS) (h : mH), isM h x (mFs x f4 f6 q.1 f9 q.2.1 q.2.2.1 q.2.2.2.1 q.2.2.2.2 f14 f16 f18 s) m kp was pool tape pln pap rwd rw → psOk f9 q → RUNM G l (n + 5) mX11_isTakeRead [.ref x, .int (J w)] h (fun v h' => v = some (.int (J (bz (take q).1))) ∧ isM h' x (mFs x f4 f6 ((take q).2).1 f9 ((take q).2).2.1 ((take q).2).2.2.1 ((take q).2).2.2.2.1 ((take q).2).2.2.2.2 f14 f16 f18 s) m kp was pool tape pln pap rwd rw ∧ Same (mBlk x) h h')) (hIn : bh = false → ∀ (q : PS) (h : mH), isM h x (mFs x f4 f6 q.1 f9 q.2.1 q.2.2.1 q.2.2.2.1 q.2.2.2.2 f14 f16 f18 s) m kp was pool tape pln pap rwd rw → psOk f9 q → RUNM G l (n + 5) mX11_isStepRead [.ref x, .int (J w), .int (J 0), .int (J 1)] h (fun v h' => v = some (.int (J (bz (inner q).1))) ∧ isM h' x (mFs x f4 f6 ((inner q).2).1 f9 ((inner q).2).2.1 ((inner q).2).2.2.1 ((inner q).2).2.2.2.1 ((inner q).2).2.2.2.2 f14 f16 f18 s) m kp was pool tape pln pap rwd rw ∧ Same (mBlk x) h h')) : RUNM G l (n + 6) mX11_isStepRead [.ref x, .int (J w), .int (J (bz it)), .int (J (bz bh))] h (fun v h' => v = some (.int (J (bz (stepR sr f9 take inner it bh q).1))) ∧ isM h' x (mFs x f4 f6 ((stepR sr f9 take inner it bh q).2).1 f9 ((stepR sr f9 take inner it bh q).2).2.1 ((stepR sr f9 take inner it bh q).2).2.2.1 ((stepR sr f9 take inner it bh q).2).2.2.2.1 ((stepR sr f9 take inner it bh q).2).2.2.2.2 f14 f16 f18 s) m kp was pool tape pln pap rwd rw ∧ Same (mBlk x) h h') := by
  dsimp only [mFs] at hB
  refine RUNM.of (by decide +kernel) (Nat.le_of_ble_eq_true rfl) ?_
  have hB0 := hB
  obtain ⟨hq1, hq2, hq3, hq4, hq5, hq6, hq7, hq8⟩ := id hq
  obtain ⟨hs, hl0, hby⟩ := id hT
  have hh := here_r hT q.1
  refine r_aload_n (pc := 0) dX11_isStepRead_0 rfl (by first | rfl | exact isRefV_rf _) ?_
  refine r_callV0 (pc := 1) dX11_isStepRead_1 qX11_here kX11_74 vX11_here (by exact isM.gx (by assumption)) rfl rfl (Nat.le_of_ble_eq_true rfl) (m_here (n + 5) hB0 hT hq) (fun v_1 h_1 q_1 => ?_)
  obtain ⟨rfl, rfl⟩ := q_1
  refine r_istore (pc := 4) dX11_isStepRead_4 (Nat.le_of_ble_eq_true rfl) ?_
  dsimp only [lsSt, List.set, mLs, mEnt]
  refine r_iload (pc := 6) dX11_isStepRead_6 rfl ?_
  refine rj_bipush (pc := 8) dX11_isStepRead_8 (by decide +kernel) ?_
  refine rj_icmp_eq (pc := 10) (tgt := 91) dX11_isStepRead_10 (by decide) (by first | assumption | exact b01_r | exact bz_r | omega | (constructor <;> omega) | exact hM _ | exact hPo _ | exact hTa _ | exact hRo _) (by first | assumption | exact b01_r | exact bz_r | omega | (constructor <;> omega) | exact hM _ | exact hPo _ | exact hTa _ | exact hRo _) (fun c_10 => ?_) (fun c_10 => ?_)
  · refine rj_iconst (pc := 91) dX11_isStepRead_91 ?_
    refine r_goto (pc := 92) (tgt := 96) dX11_isStepRead_92 (by decide) ?_
    refine r_istore (pc := 96) dX11_isStepRead_96 (Nat.le_of_ble_eq_true rfl) ?_
    dsimp only [lsSt, List.set, mLs, mEnt]
    have ok : stepOk (hereF sr f9 q.1) it bh q := Or.inl c_10
    have z := L_step98 (G := G) (l := l) n (it := it) (bh := bh) hB0 hT hq hTk hIn
    rw [b01_t ok] at z
    exact z
  · refine r_iload (pc := 13) dX11_isStepRead_13 rfl ?_
    refine rj_bipush (pc := 15) dX11_isStepRead_15 (by decide +kernel) ?_
    refine rj_icmp_eq (pc := 17) (tgt := 91) dX11_isStepRead_17 (by decide) (by first | assumption | exact b01_r | exact bz_r | omega | (constructor <;> omega) | exact hM _ | exact hPo _ | exact hTa _ | exact hRo _) (by first | assumption | exact b01_r | exact bz_r | omega | (constructor <;> omega) | exact hM _ | exact hPo _ | exact hTa _ | exact hRo _) (fun c_17 => ?_) (fun c_17 => ?_)
    · refine rj_iconst (pc := 91) dX11_isStepRead_91 ?_
      refine r_goto (pc := 92) (tgt := 96) dX11_isStepRead_92 (by decide) ?_
      refine r_istore (pc := 96) dX11_isStepRead_96 (Nat.le_of_ble_eq_true rfl) ?_
      dsimp only [lsSt, List.set, mLs, mEnt]
      have ok : stepOk (hereF sr f9 q.1) it bh q := Or.inr (Or.inl c_17)
      have z := L_step98 (G := G) (l := l) n (it := it) (bh := bh) hB0 hT hq hTk hIn
      rw [b01_t ok] at z
      exact z
    · refine r_iload (pc := 20) dX11_isStepRead_20 rfl ?_
      refine rj_bipush (pc := 22) dX11_isStepRead_22 (by decide +kernel) ?_
      refine rj_icmp_eq (pc := 24) (tgt := 91) dX11_isStepRead_24 (by decide) (by first | assumption | exact b01_r | exact bz_r | omega | (constructor <;> omega) | exact hM _ | exact hPo _ | exact hTa _ | exact hRo _) (by first | assumption | exact b01_r | exact bz_r | omega | (constructor <;> omega) | exact hM _ | exact hPo _ | exact hTa _ | exact hRo _) (fun c_24 => ?_) (fun c_24 => ?_)
      · refine rj_iconst (pc := 91) dX11_isStepRead_91 ?_
        refine r_goto (pc := 92) (tgt := 96) dX11_isStepRead_92 (by decide) ?_
        refine r_istore (pc := 96) dX11_isStepRead_96 (Nat.le_of_ble_eq_true rfl) ?_
        dsimp only [lsSt, List.set, mLs, mEnt]
        have ok : stepOk (hereF sr f9 q.1) it bh q := Or.inr (Or.inr (Or.inl c_24))
        have z := L_step98 (G := G) (l := l) n (it := it) (bh := bh) hB0 hT hq hTk hIn
        rw [b01_t ok] at z
        exact z
      · refine r_iload (pc := 27) dX11_isStepRead_27 rfl ?_
        refine rj_bipush (pc := 29) dX11_isStepRead_29 (by decide +kernel) ?_
        refine rj_icmp_eq (pc := 31) (tgt := 91) dX11_isStepRead_31 (by decide) (by first | assumption | exact b01_r | exact bz_r | omega | (constructor <;> omega) | exact hM _ | exact hPo _ | exact hTa _ | exact hRo _) (by first | assumption | exact b01_r | exact bz_r | omega | (constructor <;> omega) | exact hM _ | exact hPo _ | exact hTa _ | exact hRo _) (fun c_31 => ?_) (fun c_31 => ?_)
        · refine rj_iconst (pc := 91) dX11_isStepRead_91 ?_
          refine r_goto (pc := 92) (tgt := 96) dX11_isStepRead_92 (by decide) ?_
          refine r_istore (pc := 96) dX11_isStepRead_96 (Nat.le_of_ble_eq_true rfl) ?_
          dsimp only [lsSt, List.set, mLs, mEnt]
          have ok : stepOk (hereF sr f9 q.1) it bh q := Or.inr (Or.inr (Or.inr (Or.inl c_31)))
          have z := L_step98 (G := G) (l := l) n (it := it) (bh := bh) hB0 hT hq hTk hIn
          rw [b01_t ok] at z
          exact z
        · refine r_iload (pc := 34) dX11_isStepRead_34 rfl ?_
          refine rj_bipush (pc := 36) dX11_isStepRead_36 (by decide +kernel) ?_
          refine rj_icmp_eq (pc := 38) (tgt := 91) dX11_isStepRead_38 (by decide) (by first | assumption | exact b01_r | exact bz_r | omega | (constructor <;> omega) | exact hM _ | exact hPo _ | exact hTa _ | exact hRo _) (by first | assumption | exact b01_r | exact bz_r | omega | (constructor <;> omega) | exact hM _ | exact hPo _ | exact hTa _ | exact hRo _) (fun c_38 => ?_) (fun c_38 => ?_)
          · refine rj_iconst (pc := 91) dX11_isStepRead_91 ?_
            refine r_goto (pc := 92) (tgt := 96) dX11_isStepRead_92 (by decide) ?_
            refine r_istore (pc := 96) dX11_isStepRead_96 (Nat.le_of_ble_eq_true rfl) ?_
            dsimp only [lsSt, List.set, mLs, mEnt]
            have ok : stepOk (hereF sr f9 q.1) it bh q := Or.inr (Or.inr (Or.inr (Or.inr (Or.inl c_38))))
            have z := L_step98 (G := G) (l := l) n (it := it) (bh := bh) hB0 hT hq hTk hIn
            rw [b01_t ok] at z
            exact z
          · refine r_iload (pc := 41) dX11_isStepRead_41 rfl ?_
            refine rj_bipush (pc := 43) dX11_isStepRead_43 (by decide +kernel) ?_
            refine rj_icmp_eq (pc := 45) (tgt := 91) dX11_isStepRead_45 (by decide) (by first | assumption | exact b01_r | exact bz_r | omega | (constructor <;> omega) | exact hM _ | exact hPo _ | exact hTa _ | exact hRo _) (by first | assumption | exact b01_r | exact bz_r | omega | (constructor <;> omega) | exact hM _ | exact hPo _ | exact hTa _ | exact hRo _) (fun c_45 => ?_) (fun c_45 => ?_)
            · refine rj_iconst (pc := 91) dX11_isStepRead_91 ?_
              refine r_goto (pc := 92) (tgt := 96) dX11_isStepRead_92 (by decide) ?_
              refine r_istore (pc := 96) dX11_isStepRead_96 (Nat.le_of_ble_eq_true rfl) ?_
              dsimp only [lsSt, List.set, mLs, mEnt]
              have ok : stepOk (hereF sr f9 q.1) it bh q := Or.inr (Or.inr (Or.inr (Or.inr (Or.inr (Or.inl c_45)))))
              have z := L_step98 (G := G) (l := l) n (it := it) (bh := bh) hB0 hT hq hTk hIn
              rw [b01_t ok] at z
              exact z
            · refine r_iload (pc := 48) dX11_isStepRead_48 rfl ?_
              refine rj_bipush (pc := 50) dX11_isStepRead_50 (by decide +kernel) ?_
              refine rj_icmp_eq (pc := 52) (tgt := 91) dX11_isStepRead_52 (by decide) (by first | assumption | exact b01_r | exact bz_r | omega | (constructor <;> omega) | exact hM _ | exact hPo _ | exact hTa _ | exact hRo _) (by first | assumption | exact b01_r | exact bz_r | omega | (constructor <;> omega) | exact hM _ | exact hPo _ | exact hTa _ | exact hRo _) (fun c_52 => ?_) (fun c_52 => ?_)
              · refine rj_iconst (pc := 91) dX11_isStepRead_91 ?_
                refine r_goto (pc := 92) (tgt := 96) dX11_isStepRead_92 (by decide) ?_
                refine r_istore (pc := 96) dX11_isStepRead_96 (Nat.le_of_ble_eq_true rfl) ?_
                dsimp only [lsSt, List.set, mLs, mEnt]
                have ok : stepOk (hereF sr f9 q.1) it bh q := Or.inr (Or.inr (Or.inr (Or.inr (Or.inr (Or.inr (Or.inl c_52))))))
                have z := L_step98 (G := G) (l := l) n (it := it) (bh := bh) hB0 hT hq hTk hIn
                rw [b01_t ok] at z
                exact z
              · refine r_iload (pc := 55) dX11_isStepRead_55 rfl ?_
                refine rj_bipush (pc := 57) dX11_isStepRead_57 (by decide +kernel) ?_
                refine rj_icmp_ne (pc := 59) (tgt := 66) dX11_isStepRead_59 (by decide) (by first | assumption | exact b01_r | exact bz_r | omega | (constructor <;> omega) | exact hM _ | exact hPo _ | exact hTa _ | exact hRo _) (by first | assumption | exact b01_r | exact bz_r | omega | (constructor <;> omega) | exact hM _ | exact hPo _ | exact hTa _ | exact hRo _) (fun c_59 => ?_) (fun c_59 => ?_)
                · refine r_iload (pc := 66) dX11_isStepRead_66 rfl ?_
                  refine rj_bipush (pc := 68) dX11_isStepRead_68 (by decide +kernel) ?_
                  refine rj_icmp_eq (pc := 70) (tgt := 87) dX11_isStepRead_70 (by decide) (by first | assumption | exact b01_r | exact bz_r | omega | (constructor <;> omega) | exact hM _ | exact hPo _ | exact hTa _ | exact hRo _) (by first | assumption | exact b01_r | exact bz_r | omega | (constructor <;> omega) | exact hM _ | exact hPo _ | exact hTa _ | exact hRo _) (fun c_70 => ?_) (fun c_70 => ?_)
                  · refine r_iload_n (pc := 87) dX11_isStepRead_87 rfl ?_
                    refine rj_if_eq (pc := 88) (tgt := 95) dX11_isStepRead_88 (by decide) (by first | assumption | exact b01_r | exact bz_r | omega | (constructor <;> omega) | exact hM _ | exact hPo _ | exact hTa _ | exact hRo _) (fun c_88 => ?_) (fun c_88 => ?_)
                    · try simp only [b01_0, bz_0, Classical.not_not] at c_88
                      refine rj_iconst (pc := 95) dX11_isStepRead_95 ?_
                      refine r_istore (pc := 96) dX11_isStepRead_96 (Nat.le_of_ble_eq_true rfl) ?_
                      dsimp only [lsSt, List.set, mLs, mEnt]
                      have ok : ¬ stepOk (hereF sr f9 q.1) it bh q := by
                        intro g
                        rcases g with g | g | g | g | g | g | g | ⟨g1, g2⟩ | ⟨g1 | ⟨g1, g3⟩, g2⟩ <;> first | omega | (simp_all; done) | (simp_all; omega)
                      have z := L_step98 (G := G) (l := l) n (it := it) (bh := bh) hB0 hT hq hTk hIn
                      rw [b01_f ok] at z
                      exact z
                    · try simp only [b01_0, bz_0, Classical.not_not] at c_88
                      refine rj_iconst (pc := 91) dX11_isStepRead_91 ?_
                      refine r_goto (pc := 92) (tgt := 96) dX11_isStepRead_92 (by decide) ?_
                      refine r_istore (pc := 96) dX11_isStepRead_96 (Nat.le_of_ble_eq_true rfl) ?_
                      dsimp only [lsSt, List.set, mLs, mEnt]
                      have ok : stepOk (hereF sr f9 q.1) it bh q := Or.inr (Or.inr (Or.inr (Or.inr (Or.inr (Or.inr (Or.inr (Or.inr (⟨Or.inl c_70, c_88⟩))))))))
                      have z := L_step98 (G := G) (l := l) n (it := it) (bh := bh) hB0 hT hq hTk hIn
                      rw [b01_t ok] at z
                      exact z
                  · refine r_iload (pc := 73) dX11_isStepRead_73 rfl ?_
                    refine rj_bipush (pc := 75) dX11_isStepRead_75 (by decide +kernel) ?_
                    refine rj_icmp_ne (pc := 77) (tgt := 95) dX11_isStepRead_77 (by decide) (by first | assumption | exact b01_r | exact bz_r | omega | (constructor <;> omega) | exact hM _ | exact hPo _ | exact hTa _ | exact hRo _) (by first | assumption | exact b01_r | exact bz_r | omega | (constructor <;> omega) | exact hM _ | exact hPo _ | exact hTa _ | exact hRo _) (fun c_77 => ?_) (fun c_77 => ?_)
                    · refine rj_iconst (pc := 95) dX11_isStepRead_95 ?_
                      refine r_istore (pc := 96) dX11_isStepRead_96 (Nat.le_of_ble_eq_true rfl) ?_
                      dsimp only [lsSt, List.set, mLs, mEnt]
                      have ok : ¬ stepOk (hereF sr f9 q.1) it bh q := by
                        intro g
                        rcases g with g | g | g | g | g | g | g | ⟨g1, g2⟩ | ⟨g1 | ⟨g1, g3⟩, g2⟩ <;> first | omega | (simp_all; done) | (simp_all; omega)
                      have z := L_step98 (G := G) (l := l) n (it := it) (bh := bh) hB0 hT hq hTk hIn
                      rw [b01_f ok] at z
                      exact z
                    · refine r_aload_n (pc := 80) dX11_isStepRead_80 rfl (by first | rfl | exact isRefV_rf _) ?_
                      refine rm_getf (pc := 81) dX11_isStepRead_81 fX11_99 (by assumption) rfl ?_
                      refine rj_if_le (pc := 84) (tgt := 95) dX11_isStepRead_84 (by decide) (by first | assumption | exact b01_r | exact bz_r | omega | (constructor <;> omega) | exact hM _ | exact hPo _ | exact hTa _ | exact hRo _) (fun c_84 => ?_) (fun c_84 => ?_)
                      · refine rj_iconst (pc := 95) dX11_isStepRead_95 ?_
                        refine r_istore (pc := 96) dX11_isStepRead_96 (Nat.le_of_ble_eq_true rfl) ?_
                        dsimp only [lsSt, List.set, mLs, mEnt]
                        have ok : ¬ stepOk (hereF sr f9 q.1) it bh q := by
                          intro g
                          rcases g with g | g | g | g | g | g | g | ⟨g1, g2⟩ | ⟨g1 | ⟨g1, g3⟩, g2⟩ <;> first | omega | (simp_all; done) | (simp_all; omega)
                        have z := L_step98 (G := G) (l := l) n (it := it) (bh := bh) hB0 hT hq hTk hIn
                        rw [b01_f ok] at z
                        exact z
                      · refine r_iload_n (pc := 87) dX11_isStepRead_87 rfl ?_
                        refine rj_if_eq (pc := 88) (tgt := 95) dX11_isStepRead_88 (by decide) (by first | assumption | exact b01_r | exact bz_r | omega | (constructor <;> omega) | exact hM _ | exact hPo _ | exact hTa _ | exact hRo _) (fun c_88 => ?_) (fun c_88 => ?_)
                        · try simp only [b01_0, bz_0, Classical.not_not] at c_88
                          refine rj_iconst (pc := 95) dX11_isStepRead_95 ?_
                          refine r_istore (pc := 96) dX11_isStepRead_96 (Nat.le_of_ble_eq_true rfl) ?_
                          dsimp only [lsSt, List.set, mLs, mEnt]
                          have ok : ¬ stepOk (hereF sr f9 q.1) it bh q := by
                            intro g
                            rcases g with g | g | g | g | g | g | g | ⟨g1, g2⟩ | ⟨g1 | ⟨g1, g3⟩, g2⟩ <;> first | omega | (simp_all; done) | (simp_all; omega)
                          have z := L_step98 (G := G) (l := l) n (it := it) (bh := bh) hB0 hT hq hTk hIn
                          rw [b01_f ok] at z
                          exact z
                        · try simp only [b01_0, bz_0, Classical.not_not] at c_88
                          refine rj_iconst (pc := 91) dX11_isStepRead_91 ?_
                          refine r_goto (pc := 92) (tgt := 96) dX11_isStepRead_92 (by decide) ?_
                          refine r_istore (pc := 96) dX11_isStepRead_96 (Nat.le_of_ble_eq_true rfl) ?_
                          dsimp only [lsSt, List.set, mLs, mEnt]
                          have ok : stepOk (hereF sr f9 q.1) it bh q := Or.inr (Or.inr (Or.inr (Or.inr (Or.inr (Or.inr (Or.inr (Or.inr (⟨Or.inr ⟨c_77, by omega⟩, c_88⟩))))))))
                          have z := L_step98 (G := G) (l := l) n (it := it) (bh := bh) hB0 hT hq hTk hIn
                          rw [b01_t ok] at z
                          exact z
                · refine r_iload_n (pc := 62) dX11_isStepRead_62 rfl ?_
                  refine rj_if_eq (pc := 63) (tgt := 91) dX11_isStepRead_63 (by decide) (by first | assumption | exact b01_r | exact bz_r | omega | (constructor <;> omega) | exact hM _ | exact hPo _ | exact hTa _ | exact hRo _) (fun c_63 => ?_) (fun c_63 => ?_)
                  · try simp only [b01_0, bz_0, Classical.not_not] at c_63
                    refine rj_iconst (pc := 91) dX11_isStepRead_91 ?_
                    refine r_goto (pc := 92) (tgt := 96) dX11_isStepRead_92 (by decide) ?_
                    refine r_istore (pc := 96) dX11_isStepRead_96 (Nat.le_of_ble_eq_true rfl) ?_
                    dsimp only [lsSt, List.set, mLs, mEnt]
                    have ok : stepOk (hereF sr f9 q.1) it bh q := Or.inr (Or.inr (Or.inr (Or.inr (Or.inr (Or.inr (Or.inr (Or.inl ⟨c_59, by simpa using c_63⟩)))))))
                    have z := L_step98 (G := G) (l := l) n (it := it) (bh := bh) hB0 hT hq hTk hIn
                    rw [b01_t ok] at z
                    exact z
                  · try simp only [b01_0, bz_0, Classical.not_not] at c_63
                    refine r_iload (pc := 66) dX11_isStepRead_66 rfl ?_
                    refine rj_bipush (pc := 68) dX11_isStepRead_68 (by decide +kernel) ?_
                    refine rj_icmp_eq (pc := 70) (tgt := 87) dX11_isStepRead_70 (by decide) (by first | assumption | exact b01_r | exact bz_r | omega | (constructor <;> omega) | exact hM _ | exact hPo _ | exact hTa _ | exact hRo _) (by first | assumption | exact b01_r | exact bz_r | omega | (constructor <;> omega) | exact hM _ | exact hPo _ | exact hTa _ | exact hRo _) (fun c_70 => ?_) (fun c_70 => ?_)
                    · refine r_iload_n (pc := 87) dX11_isStepRead_87 rfl ?_
                      refine rj_if_eq (pc := 88) (tgt := 95) dX11_isStepRead_88 (by decide) (by first | assumption | exact b01_r | exact bz_r | omega | (constructor <;> omega) | exact hM _ | exact hPo _ | exact hTa _ | exact hRo _) (fun c_88 => ?_) (fun c_88 => ?_)
                      · try simp only [b01_0, bz_0, Classical.not_not] at c_88
                        refine rj_iconst (pc := 95) dX11_isStepRead_95 ?_
                        refine r_istore (pc := 96) dX11_isStepRead_96 (Nat.le_of_ble_eq_true rfl) ?_
                        dsimp only [lsSt, List.set, mLs, mEnt]
                        have ok : ¬ stepOk (hereF sr f9 q.1) it bh q := by
                          intro g
                          rcases g with g | g | g | g | g | g | g | ⟨g1, g2⟩ | ⟨g1 | ⟨g1, g3⟩, g2⟩ <;> first | omega | (simp_all; done) | (simp_all; omega)
                        have z := L_step98 (G := G) (l := l) n (it := it) (bh := bh) hB0 hT hq hTk hIn
                        rw [b01_f ok] at z
                        exact z
                      · try simp only [b01_0, bz_0, Classical.not_not] at c_88
                        refine rj_iconst (pc := 91) dX11_isStepRead_91 ?_
                        refine r_goto (pc := 92) (tgt := 96) dX11_isStepRead_92 (by decide) ?_
                        refine r_istore (pc := 96) dX11_isStepRead_96 (Nat.le_of_ble_eq_true rfl) ?_
                        dsimp only [lsSt, List.set, mLs, mEnt]
                        have ok : stepOk (hereF sr f9 q.1) it bh q := Or.inr (Or.inr (Or.inr (Or.inr (Or.inr (Or.inr (Or.inr (Or.inr (⟨Or.inl c_70, c_88⟩))))))))
                        have z := L_step98 (G := G) (l := l) n (it := it) (bh := bh) hB0 hT hq hTk hIn
                        rw [b01_t ok] at z
                        exact z
                    · refine r_iload (pc := 73) dX11_isStepRead_73 rfl ?_
                      refine rj_bipush (pc := 75) dX11_isStepRead_75 (by decide +kernel) ?_
                      refine rj_icmp_ne (pc := 77) (tgt := 95) dX11_isStepRead_77 (by decide) (by first | assumption | exact b01_r | exact bz_r | omega | (constructor <;> omega) | exact hM _ | exact hPo _ | exact hTa _ | exact hRo _) (by first | assumption | exact b01_r | exact bz_r | omega | (constructor <;> omega) | exact hM _ | exact hPo _ | exact hTa _ | exact hRo _) (fun c_77 => ?_) (fun c_77 => ?_)
                      · refine rj_iconst (pc := 95) dX11_isStepRead_95 ?_
                        refine r_istore (pc := 96) dX11_isStepRead_96 (Nat.le_of_ble_eq_true rfl) ?_
                        dsimp only [lsSt, List.set, mLs, mEnt]
                        have ok : ¬ stepOk (hereF sr f9 q.1) it bh q := by
                          intro g
                          rcases g with g | g | g | g | g | g | g | ⟨g1, g2⟩ | ⟨g1 | ⟨g1, g3⟩, g2⟩ <;> first | omega | (simp_all; done) | (simp_all; omega)
                        have z := L_step98 (G := G) (l := l) n (it := it) (bh := bh) hB0 hT hq hTk hIn
                        rw [b01_f ok] at z
                        exact z
                      · refine r_aload_n (pc := 80) dX11_isStepRead_80 rfl (by first | rfl | exact isRefV_rf _) ?_
                        refine rm_getf (pc := 81) dX11_isStepRead_81 fX11_99 (by assumption) rfl ?_
                        refine rj_if_le (pc := 84) (tgt := 95) dX11_isStepRead_84 (by decide) (by first | assumption | exact b01_r | exact bz_r | omega | (constructor <;> omega) | exact hM _ | exact hPo _ | exact hTa _ | exact hRo _) (fun c_84 => ?_) (fun c_84 => ?_)
                        · refine rj_iconst (pc := 95) dX11_isStepRead_95 ?_
                          refine r_istore (pc := 96) dX11_isStepRead_96 (Nat.le_of_ble_eq_true rfl) ?_
                          dsimp only [lsSt, List.set, mLs, mEnt]
                          have ok : ¬ stepOk (hereF sr f9 q.1) it bh q := by
                            intro g
                            rcases g with g | g | g | g | g | g | g | ⟨g1, g2⟩ | ⟨g1 | ⟨g1, g3⟩, g2⟩ <;> first | omega | (simp_all; done) | (simp_all; omega)
                          have z := L_step98 (G := G) (l := l) n (it := it) (bh := bh) hB0 hT hq hTk hIn
                          rw [b01_f ok] at z
                          exact z
                        · refine r_iload_n (pc := 87) dX11_isStepRead_87 rfl ?_
                          refine rj_if_eq (pc := 88) (tgt := 95) dX11_isStepRead_88 (by decide) (by first | assumption | exact b01_r | exact bz_r | omega | (constructor <;> omega) | exact hM _ | exact hPo _ | exact hTa _ | exact hRo _) (fun c_88 => ?_) (fun c_88 => ?_)
                          · try simp only [b01_0, bz_0, Classical.not_not] at c_88
                            refine rj_iconst (pc := 95) dX11_isStepRead_95 ?_
                            refine r_istore (pc := 96) dX11_isStepRead_96 (Nat.le_of_ble_eq_true rfl) ?_
                            dsimp only [lsSt, List.set, mLs, mEnt]
                            have ok : ¬ stepOk (hereF sr f9 q.1) it bh q := by
                              intro g
                              rcases g with g | g | g | g | g | g | g | ⟨g1, g2⟩ | ⟨g1 | ⟨g1, g3⟩, g2⟩ <;> first | omega | (simp_all; done) | (simp_all; omega)
                            have z := L_step98 (G := G) (l := l) n (it := it) (bh := bh) hB0 hT hq hTk hIn
                            rw [b01_f ok] at z
                            exact z
                          · try simp only [b01_0, bz_0, Classical.not_not] at c_88
                            refine rj_iconst (pc := 91) dX11_isStepRead_91 ?_
                            refine r_goto (pc := 92) (tgt := 96) dX11_isStepRead_92 (by decide) ?_
                            refine r_istore (pc := 96) dX11_isStepRead_96 (Nat.le_of_ble_eq_true rfl) ?_
                            dsimp only [lsSt, List.set, mLs, mEnt]
                            have ok : stepOk (hereF sr f9 q.1) it bh q := Or.inr (Or.inr (Or.inr (Or.inr (Or.inr (Or.inr (Or.inr (Or.inr (⟨Or.inr ⟨c_77, by omega⟩, c_88⟩))))))))
                            have z := L_step98 (G := G) (l := l) n (it := it) (bh := bh) hB0 hT hq hTk hIn
                            rw [b01_t ok] at z
                            exact z
theorem fail_up {p : Int} {q : PS} : q.1 ≤ (failF p q).1 := Int.le_refl _
theorem adv_up {q : PS} : q.1 ≤ (advF q).1 := by show q.1 ≤ q.1 + 1; omega
theorem gR_up {sr : Nat → Int} {len c : Int} {q : PS} : q.1 ≤ (gR sr len c q).2.1 := by
  show q.1 ≤ (signF sr len c q).1
  unfold signF
  split
  · exact adv_up
  · exact fail_up
theorem numL_up {sr : Nat → Int} {len : Int} : ∀ (n : Nat) (q : PS), q.1 ≤ (numL sr len n q).1
  | 0, q => Int.le_refl _
  | n + 1, q => by
    unfold numL
    split
    · have := numL_up (sr := sr) (len := len) n (q.1 + 1, q.2.1, 10 * q.2.2.1 + hereF sr len q.1 - 48, q.2.2.2)
      dsimp only at this
      omega
    · exact Int.le_refl _
theorem nR_up {sr : Nat → Int} {len : Int} {n : Nat} {l m : Int} {q : PS} : q.1 ≤ (nR sr len n l m q).2.1 := by
  show q.1 ≤ (numberF sr len n l m q).1
  unfold numberF
  split
  · have := numL_up (sr := sr) (len := len) n (q.1, q.2.1, 0, q.2.2.2)
    dsimp only at this
    unfold finF
    split
    · exact this
    · exact this
  · exact fail_up
theorem vR_up {sr : Nat → Int} {len : Int} {q : PS} : q.1 ≤ (vR sr len q).2.1 := by
  have h := nR_up (sr := sr) (len := len) (n := 5) (l := 0) (m := 99999) (q := minusF sr len q)
  have h2 : q.1 ≤ (minusF sr len q).1 := by
    show q.1 ≤ q.1 + b01 _
    by_cases g : hereF sr len q.1 = 45
    · rw [b01_t g]; omega
    · rw [b01_f g]; omega
  exact Int.le_trans h2 h
theorem nameL_up {sr : Nat → Int} {len : Int} : ∀ (n : Nat) (q : PS), q.1 ≤ (nameL sr len n q).1
  | 0, q => Int.le_refl _
  | n + 1, q => by
    unfold nameL
    split
    · exact Int.le_trans adv_up (nameL_up n _)
    · exact Int.le_refl _
theorem aR_up {sr : Nat → Int} {len : Int} {q : PS} : q.1 ≤ (aR sr len q).2.1 := by
  show q.1 ≤ (nameF sr len q).1
  unfold nameF
  split
  · exact nameL_up 7 _
  · exact fail_up
/-- goes on, and stays well -/
def psUp (len : Int) (f : PS → Bool × PS) : Prop := ∀ q, psOk len q → psOk len (f q).2 ∧ q.1 ≤ (f q).2.1
theorem andR_upp {len : Int} {f g : PS → Bool × PS} (hf : psUp len f) (hg : psUp len g) : psUp len (fun q => andR (f q) g) := by
  intro q hq
  obtain ⟨a, b⟩ := hf q hq
  unfold andR
  dsimp only
  split
  · obtain ⟨c, d⟩ := hg _ a
    exact ⟨c, Int.le_trans b d⟩
  · exact ⟨a, b⟩
theorem gR_p {sr : Nat → Int} {len c : Int} (hc : c ≠ -1) : psUp len (gR sr len c) := fun q hq => ⟨gR_ok hc hq, gR_up⟩
theorem nR_p {sr : Nat → Int} {len : Int} {n : Nat} {l m : Int} (hn : n ≤ 5) : psUp len (nR sr len n l m) := fun q hq => ⟨nR_ok hn hq, nR_up⟩
theorem vR_p {sr : Nat → Int} {len : Int} : psUp len (vR sr len) := fun q hq => ⟨vR_ok hq, vR_up⟩
theorem aR_p {sr : Nat → Int} {len : Int} : psUp len (aR sr len) := fun q hq => ⟨aR_ok hq, aR_up⟩
theorem takeG_p {sr : Nat → Int} {len : Int} {steps : PS → Bool × PS} {w : Int} (hs : psUp len steps) : psUp len (takeG sr len steps w) := by
  refine andR_upp aR_p (fun q hq => ?_)
  try dsimp only
  split
  · rename_i h
    have hl := here_lt (sr := sr) (len := len) (a := q.1) (by omega)
    split
    · exact ⟨fail_ok hq hq.1 hq.2.1, fail_up⟩
    · obtain ⟨a, b⟩ := andR_upp hs (gR_p (sr := sr) (len := len) (c := 125) (by decide)) _ (adv_ok hq hl)
      exact ⟨a, Int.le_trans adv_up b⟩
  · exact ⟨hq, Int.le_refl _⟩
theorem open_p {len c : Int} {q : PS} (hq : psOk len q) (h1 : c = 41 → 0 < q.2.2.2.2) (h2 : q.2.2.2.2 ≤ q.1 + 89) : psOk len (openF c q) ∧ q.1 ≤ (openF c q).1 := by
  obtain ⟨a, b, cc, d, e, f, g, i⟩ := hq
  refine ⟨⟨a, b, cc, d, e, f, ?_, ?_⟩, Int.le_refl _⟩
  · unfold openF
    dsimp only
    split
    · omega
    · split
      · have := h1 (by assumption); omega
      · omega
  · unfold openF
    dsimp only
    split
    · omega
    · split <;> omega
theorem stepR_p {sr : Nat → Int} {len : Int} {take inner : PS → Bool × PS} {it bh : Bool} (ht : psUp len take) (hi : psUp len inner) : psUp len (stepR sr len take inner it bh) := by
  intro q hq
  unfold stepR
  split
  · rename_i ok
    have hl := here_lt (sr := sr) (len := len) (a := q.1) (by rcases ok with g | g | g | g | g | g | g | ⟨g, -⟩ | ⟨g | ⟨g, -⟩, -⟩ <;> omega)
    have hq1 := adv_ok hq hl
    have K : ∀ f : PS → Bool × PS, psUp len f → psOk len (f (advF q)).2 ∧ q.1 ≤ (f (advF q)).2.1 := fun f hf => ⟨(hf _ hq1).1, Int.le_trans adv_up (hf _ hq1).2⟩
    unfold stepG
    split
    · exact K (fun q => andR (andR (nR sr len 1 0 7 q) (gR sr len 61)) (vR sr len)) (andR_upp (andR_upp (nR_p (by decide)) (gR_p (by decide))) vR_p)
    · split
      · exact K _ (nR_p (by decide))
      · split
        · exact K _ ht
        · split
          · exact K _ aR_p
          · split
            · exact K (fun q => andR (andR (aR sr len q) (gR sr len 62)) (nR sr len 2 0 99)) (andR_upp (andR_upp aR_p (gR_p (by decide))) (nR_p (by decide)))
            · split
              · exact K _ (nR_p (by decide))
              · split
                · exact K (fun q => andR (andR (andR (andR (nR sr len 1 0 7 q) (gR sr len 60)) (vR sr len)) (gR sr len 58)) inner) (andR_upp (andR_upp (andR_upp (andR_upp (nR_p (by decide)) (gR_p (by decide))) vR_p) (gR_p (by decide))) hi)
                · obtain ⟨a, b⟩ := open_p (c := hereF sr len q.1) hq1 (fun g => by
                    show 0 < q.2.2.2.2
                    rcases ok with z | z | z | z | z | z | z | ⟨z, -⟩ | ⟨z | ⟨z, z2⟩, -⟩ <;> omega) (by
                    have := hq.2.2.2.2.2.2.2
                    show q.2.2.2.2 ≤ q.1 + 1 + 89
                    omega)
                  exact ⟨a, Int.le_trans adv_up b⟩
  · exact ⟨fail_ok hq hq.1 hq.2.1, fail_up⟩
end mg_25
section mg_26
/-! ===== contracts of the reference: rows of steps, whole texts ===== -/
def stepsL (sr : Nat → Int) (len : Int) (st : PS → Bool × PS) : Nat → Int → Bool × PS → (Bool × PS) × Int
  | 0, n, r => (r, n)
  | k + 1, n, r => if r.1 = true ∧ hereF sr len r.2.1 = 59 then stepsL sr len st k (n + 1) (st (advF r.2)) else (r, n)
def setN (z : (Bool × PS) × Int) : Bool × PS := (z.1.1, (z.1.2.1, z.1.2.2.1, z.1.2.2.2.1, z.2, z.1.2.2.2.2.2))
def stepsR (sr : Nat → Int) (len : Int) (st : PS → Bool × PS) (q : PS) : Bool × PS := setN (stepsL sr len st (len.toNat + 1) 1 (st q))
theorem setN_ok {len : Int} {z : (Bool × PS) × Int} (h : psOk len z.1.2) : psOk len (setN z).2 := h
theorem stepsL_p {sr : Nat → Int} {len : Int} {st : PS → Bool × PS} (hs : psUp len st) : ∀ (k : Nat) (n : Int) (r : Bool × PS), psOk len r.2 → psOk len (stepsL sr len st k n r).1.2 ∧ r.2.1 ≤ (stepsL sr len st k n r).1.2.1
  | 0, n, r, h => ⟨h, Int.le_refl _⟩
  | k + 1, n, r, h => by
    unfold stepsL
    split
    · rename_i c
      have hl := here_lt (sr := sr) (len := len) (a := r.2.1) (by omega)
      have h1 := adv_ok h hl
      obtain ⟨a, b⟩ := hs _ h1
      obtain ⟨c1, c2⟩ := stepsL_p hs k (n + 1) _ a
      exact ⟨c1, Int.le_trans (Int.le_trans adv_up b) c2⟩
    · exact ⟨h, Int.le_refl _⟩
theorem stepsR_p {sr : Nat → Int} {len : Int} {st : PS → Bool × PS} (hs : psUp len st) : psUp len (stepsR sr len st) := by
  intro q hq
  obtain ⟨a, b⟩ := hs q hq
  obtain ⟨c, d⟩ := stepsL_p (sr := sr) hs (len.toNat + 1) 1 (st q) a
  exact ⟨setN_ok c, Int.le_trans b d⟩
set_option maxHeartbeats 4000000 in
set_option maxRecDepth 100000 in
theorem L_steps {G : mG} {l : Launch} {x s : Nat} {f4 f6 f9 f14 f16 f18 : Int} {m kp was pool tape pln pap rwd rw sr : Nat → Int} (hT : txOk s sr pool tape f9) {w : Int} {it : Bool} {st : PS → Bool × PS} (hup : psUp f9 st) {D : Nat} (hSt : ∀ (q : PS) (h : mH), isM h x (mFs x f4 f6 q.1 f9 q.2.1 q.2.2.1 q.2.2.2.1 q.2.2.2.2 f14 f16 f18 s) m kp was pool tape pln pap rwd rw → psOk f9 q → RUNM G l D mX11_isStepRead [.ref x, .int (J w), .int (J (bz it)), .int (J 0)] h (fun v h' => v = some (.int (J (bz (st q).1))) ∧ isM h' x (mFs x f4 f6 ((st q).2).1 f9 ((st q).2).2.1 ((st q).2).2.2.1 ((st q).2).2.2.2.1 ((st q).2).2.2.2.2 f14 f16 f18 s) m kp was pool tape pln pap rwd rw ∧ Same (mBlk x) h h')) : ∀ (k : Nat) (n : Int) (r : Bool × PS) (h : mH), isM h x (mFs x f4 f6 r.2.1 f9 r.2.2.1 r.2.2.2.1 r.2.2.2.2.1 r.2.2.2.2.2 f14 f16 f18 s) m kp was pool tape pln pap rwd rw → psOk f9 r.2 → f9 - r.2.1 < k → RUN G l (D + 1) mX11_isStepsRead 11 [some (.ref x), some (.int (J w)), some (.int (J (bz it))), some (.int (J (bz r.1))), some (.int (J n))] [] h (fun v h' => v = some (.int (J (bz (setN (stepsL sr f9 st k n r)).1))) ∧ isM h' x (mFs x f4 f6 ((setN (stepsL sr f9 st k n r)).2).1 f9 ((setN (stepsL sr f9 st k n r)).2).2.1 ((setN (stepsL sr f9 st k n r)).2).2.2.1 ((setN (stepsL sr f9 st k n r)).2).2.2.2.1 ((setN (stepsL sr f9 st k n r)).2).2.2.2.2 f14 f16 f18 s) m kp was pool tape pln pap rwd rw ∧ Same (mBlk x) h h') := by
  obtain ⟨hsx, hl0, hby⟩ := id hT
  intro k
  induction k with
  | zero =>
    intro n r h hB hq hk
    have hB0 := hB
    dsimp only [mFs] at hB
    obtain ⟨hq1, hq2, hq3, hq4, hq5, hq6, hq7, hq8⟩ := id hq
    have hh := here_r hT r.2.1
    exfalso; omega
  | succ k ih =>
    intro n r h hB hq hk
    have hB0 := hB
    dsimp only [mFs] at hB
    obtain ⟨hq1, hq2, hq3, hq4, hq5, hq6, hq7, hq8⟩ := id hq
    have hh := here_r hT r.2.1
    refine r_iload_n (pc := 11) dX11_isStepsRead_11 rfl ?_
    refine rj_if_eq (pc := 12) (tgt := 48) dX11_isStepsRead_12 (by decide) (by first | assumption | exact b01_r | exact bz_r | omega | (constructor <;> omega) | exact hM _ | exact hPo _ | exact hTa _ | exact hRo _) (fun c_12 => ?_) (fun c_12 => ?_)
    · try simp only [b01_0, bz_0, Classical.not_not] at c_12
      refine r_aload_n (pc := 48) dX11_isStepsRead_48 rfl (by first | rfl | exact isRefV_rf _) ?_
      refine r_iload (pc := 49) dX11_isStepsRead_49 rfl ?_
      refine rm_putf (pc := 51) dX11_isStepsRead_51 fX11_112 (by assumption) rfl rfl (Nat.le_of_ble_eq_true rfl) (fun h_51 hB_51 hS_51 => ?_)
      dsimp only [List.set, mFs] at hB_51
      refine r_iload_n (pc := 54) dX11_isStepsRead_54 rfl ?_
      refine r_ireturn (pc := 55) .boolean dX11_isStepsRead_55 rfl (by first | exact nar_J0 | exact nar_J1 | exact nar_b01 | exact nar_bz) ?_
      have e : stepsL sr f9 st (k + 1) n r = (r, n) := by unfold stepsL; rw [if_neg (fun g => c_12 g.1)]
      rw [e]
      exact ⟨rfl, hB_51, hS_51⟩
    · try simp only [b01_0, bz_0, Classical.not_not] at c_12
      refine r_aload_n (pc := 15) dX11_isStepsRead_15 rfl (by first | rfl | exact isRefV_rf _) ?_
      refine r_callV0 (pc := 16) dX11_isStepsRead_16 qX11_here kX11_74 vX11_here (by exact isM.gx (by assumption)) rfl rfl (Nat.le_of_ble_eq_true rfl) (m_here (q := r.2) D hB0 hT hq) (fun v_16 h_16 q_16 => ?_)
      obtain ⟨rfl, rfl⟩ := q_16
      refine rj_bipush (pc := 19) dX11_isStepsRead_19 (by decide +kernel) ?_
      refine rj_icmp_ne (pc := 21) (tgt := 48) dX11_isStepsRead_21 (by decide) (by first | assumption | exact b01_r | exact bz_r | omega | (constructor <;> omega) | exact hM _ | exact hPo _ | exact hTa _ | exact hRo _) (by first | assumption | exact b01_r | exact bz_r | omega | (constructor <;> omega) | exact hM _ | exact hPo _ | exact hTa _ | exact hRo _) (fun c_21 => ?_) (fun c_21 => ?_)
      · refine r_aload_n (pc := 48) dX11_isStepsRead_48 rfl (by first | rfl | exact isRefV_rf _) ?_
        refine r_iload (pc := 49) dX11_isStepsRead_49 rfl ?_
        refine rm_putf (pc := 51) dX11_isStepsRead_51 fX11_112 (by assumption) rfl rfl (Nat.le_of_ble_eq_true rfl) (fun h_51 hB_51 hS_51 => ?_)
        dsimp only [List.set, mFs] at hB_51
        refine r_iload_n (pc := 54) dX11_isStepsRead_54 rfl ?_
        refine r_ireturn (pc := 55) .boolean dX11_isStepsRead_55 rfl (by first | exact nar_J0 | exact nar_J1 | exact nar_b01 | exact nar_bz) ?_
        have e : stepsL sr f9 st (k + 1) n r = (r, n) := by unfold stepsL; rw [if_neg (fun g => c_21 g.2)]
        rw [e]
        exact ⟨rfl, hB_51, hS_51⟩
      · have hl := here_lt (sr := sr) (len := f9) (a := r.2.1) (by omega)
        refine r_aload_n (pc := 24) dX11_isStepsRead_24 rfl (by first | rfl | exact isRefV_rf _) ?_
        refine r_dup (pc := 25) dX11_isStepsRead_25 (by first | rfl | (cases ‹Option Nat› <;> rfl)) ?_
        refine rm_getf (pc := 26) dX11_isStepsRead_26 fX11_65 (by assumption) rfl ?_
        refine rj_iconst (pc := 29) dX11_isStepsRead_29 ?_
        refine rj_iadd (pc := 30) dX11_isStepsRead_30 ?_
        refine rm_putf (pc := 31) dX11_isStepsRead_31 fX11_65 (by assumption) rfl rfl (Nat.le_of_ble_eq_true rfl) (fun h_31 hB_31 hS_31 => ?_)
        dsimp only [List.set, mFs] at hB_31
        refine rj_iinc (pc := 34) dX11_isStepsRead_34 (Nat.le_of_ble_eq_true rfl) rfl ?_
        dsimp only [lsSt, List.set, mLs, mEnt]
        refine r_aload_n (pc := 37) dX11_isStepsRead_37 rfl (by first | rfl | exact isRefV_rf _) ?_
        refine r_iload_n (pc := 38) dX11_isStepsRead_38 rfl ?_
        refine r_iload_n (pc := 39) dX11_isStepsRead_39 rfl ?_
        refine rj_iconst (pc := 40) dX11_isStepsRead_40 ?_
        refine r_callV3 (pc := 41) dX11_isStepsRead_41 qX11_isStepRead kX11_108 vX11_isStepRead (by exact isM.gx (by assumption)) rfl rfl (Nat.le_of_ble_eq_true rfl) (hSt (advF r.2) _ hB_31 (adv_ok hq hl)) (fun v_41 h_41 q_41 => ?_)
        obtain ⟨rfl, hB_41, hS_41⟩ := q_41
        refine r_istore_n (pc := 44) dX11_isStepsRead_44 (Nat.le_of_ble_eq_true rfl) ?_
        dsimp only [lsSt, List.set, mLs, mEnt]
        refine r_goto (pc := 45) (tgt := 11) dX11_isStepsRead_45 (by decide) ?_
        have z := ih (n + 1) (st (advF r.2)) _ hB_41 (hup _ (adv_ok hq hl)).1 (by have := (hup _ (adv_ok hq hl)).2; have e : (advF r.2).1 = r.2.1 + 1 := rfl; omega)
        rw [show stepsL sr f9 st (k + 1) n r = stepsL sr f9 st k (n + 1) (st (advF r.2)) by rw [stepsL, if_pos ⟨c_12, c_21⟩]]
        exact z.mono (fun v h' g => ⟨g.1, g.2.1, (hS_31.trans hS_41).trans g.2.2⟩)
set_option maxHeartbeats 4000000 in
set_option maxRecDepth 100000 in
theorem m_isStepsRead {G : mG} {l : Launch} {h : mH} {x s : Nat} {f4 f6 f9 f14 f16 f18 : Int} {q : PS} {m kp was pool tape pln pap rwd rw sr : Nat → Int} (hB : isM h x (mFs x f4 f6 q.1 f9 q.2.1 q.2.2.1 q.2.2.2.1 q.2.2.2.2 f14 f16 f18 s) m kp was pool tape pln pap rwd rw) (hT : txOk s sr pool tape f9) (hq : psOk f9 q) {w : Int} {it : Bool} {st : PS → Bool × PS} (hup : psUp f9 st) {D : Nat} (hSt : ∀ (q : PS) (h : mH), isM h x (mFs x f4 f6 q.1 f9 q.2.1 q.2.2.1 q.2.2.2.1 q.2.2.2.2 f14 f16 f18 s) m kp was pool tape pln pap rwd rw → psOk f9 q → RUNM G l D mX11_isStepRead [.ref x, .int (J w), .int (J (bz it)), .int (J 0)] h (fun v h' => v = some (.int (J (bz (st q).1))) ∧ isM h' x (mFs x f4 f6 ((st q).2).1 f9 ((st q).2).2.1 ((st q).2).2.2.1 ((st q).2).2.2.2.1 ((st q).2).2.2.2.2 f14 f16 f18 s) m kp was pool tape pln pap rwd rw ∧ Same (mBlk x) h h')) : RUNM G l (D + 1) mX11_isStepsRead [.ref x, .int (J w), .int (J (bz it))] h (fun v h' => v = some (.int (J (bz (stepsR sr f9 st q).1))) ∧ isM h' x (mFs x f4 f6 ((stepsR sr f9 st q).2).1 f9 ((stepsR sr f9 st q).2).2.1 ((stepsR sr f9 st q).2).2.2.1 ((stepsR sr f9 st q).2).2.2.2.1 ((stepsR sr f9 st q).2).2.2.2.2 f14 f16 f18 s) m kp was pool tape pln pap rwd rw ∧ Same (mBlk x) h h') := by
  have hB0 := hB
  dsimp only [mFs] at hB
  refine RUNM.of (by decide +kernel) (Nat.le_of_ble_eq_true rfl) ?_
  obtain ⟨hq1, hq2, hq3, hq4, hq5, hq6, hq7, hq8⟩ := id hq
  obtain ⟨hs, hl0, hby⟩ := id hT
  refine r_aload_n (pc := 0) dX11_isStepsRead_0 rfl (by first | rfl | exact isRefV_rf _) ?_
  refine r_iload_n (pc := 1) dX11_isStepsRead_1 rfl ?_
  refine r_iload_n (pc := 2) dX11_isStepsRead_2 rfl ?_
  refine rj_iconst (pc := 3) dX11_isStepsRead_3 ?_
  refine r_callV3 (pc := 4) dX11_isStepsRead_4 qX11_isStepRead kX11_108 vX11_isStepRead (by exact isM.gx (by assumption)) rfl rfl (Nat.le_of_ble_eq_true rfl) (hSt q _ hB0 hq) (fun v_4 h_4 q_4 => ?_)
  obtain ⟨rfl, hB_4, hS_4⟩ := q_4
  refine r_istore_n (pc := 7) dX11_isStepsRead_7 (Nat.le_of_ble_eq_true rfl) ?_
  dsimp only [lsSt, List.set, mLs, mEnt]
  refine rj_iconst (pc := 8) dX11_isStepsRead_8 ?_
  refine r_istore (pc := 9) dX11_isStepsRead_9 (Nat.le_of_ble_eq_true rfl) ?_
  dsimp only [lsSt, List.set, mLs, mEnt]
  have z := L_steps (G := G) (l := l) hT hup hSt (f9.toNat + 1) 1 (st q) _ hB_4 (hup _ hq).1 (by have := (hup _ hq).2; omega)
  exact z.mono (fun v h' g => ⟨g.1, g.2.1, hS_4.trans g.2.2⟩)
/-- step, by depth: what it is that a step's own reading stands on -/
def stepN (sr : Nat → Int) (len : Int) : Nat → Int → Bool → Bool → PS → Bool × PS
  | 0, _, _, _, q => (false, q)
  | n + 1, w, it, bh, q => stepR sr len (takeG sr len (stepsR sr len (stepN sr len n (w + 1) false false)) w) (stepN sr len n w false true) it bh q
theorem stepN_p {sr : Nat → Int} {len : Int} : ∀ (n : Nat) (w : Int) (it bh : Bool), psUp len (stepN sr len n w it bh)
  | 0, _, _, _ => fun q hq => ⟨hq, Int.le_refl _⟩
  | n + 1, w, it, bh => by
    have h1 := stepN_p (sr := sr) (len := len) n (w + 1) false false
    have h2 := stepN_p (sr := sr) (len := len) n w false true
    intro q hq
    exact stepR_p (takeG_p (stepsR_p h1)) h2 q hq
set_option maxHeartbeats 4000000 in
set_option maxRecDepth 100000 in
theorem m_stepN {G : mG} {l : Launch} {x s : Nat} {f4 f6 f9 f14 f16 f18 : Int} {m kp was pool tape pln pap rwd rw sr : Nat → Int} (hT : txOk s sr pool tape f9) : ∀ (n : Nat) (w : Int) (it bh : Bool), 0 ≤ w → w ≤ 3 → (3 - w) * 2 + (if bh then 1 else 2) ≤ n → ∀ (q : PS) (h : mH), isM h x (mFs x f4 f6 q.1 f9 q.2.1 q.2.2.1 q.2.2.2.1 q.2.2.2.2 f14 f16 f18 s) m kp was pool tape pln pap rwd rw → psOk f9 q → RUNM G l (3 * n + 6) mX11_isStepRead [.ref x, .int (J w), .int (J (bz it)), .int (J (bz bh))] h (fun v h' => v = some (.int (J (bz (stepN sr f9 n w it bh q).1))) ∧ isM h' x (mFs x f4 f6 ((stepN sr f9 n w it bh q).2).1 f9 ((stepN sr f9 n w it bh q).2).2.1 ((stepN sr f9 n w it bh q).2).2.2.1 ((stepN sr f9 n w it bh q).2).2.2.2.1 ((stepN sr f9 n w it bh q).2).2.2.2.2 f14 f16 f18 s) m kp was pool tape pln pap rwd rw ∧ Same (mBlk x) h h') := by
  intro n
  induction n with
  | zero =>
    intro w it bh h0 h3 hn
    exfalso
    split at hn <;> omega
  | succ n ih =>
    intro w it bh h0 h3 hn q h hB hq
    have hSt : w ≤ 2 → ∀ (q : PS) (h : mH), isM h x (mFs x f4 f6 q.1 f9 q.2.1 q.2.2.1 q.2.2.2.1 q.2.2.2.2 f14 f16 f18 s) m kp was pool tape pln pap rwd rw → psOk f9 q → RUNM G l (3 * n + 5 + 2) mX11_isStepsRead [.ref x, .int (J (w + 1)), .int (J 0)] h (fun v h' => v = some (.int (J (bz (stepsR sr f9 (stepN sr f9 n (w + 1) false false) q).1))) ∧ isM h' x (mFs x f4 f6 ((stepsR sr f9 (stepN sr f9 n (w + 1) false false) q).2).1 f9 ((stepsR sr f9 (stepN sr f9 n (w + 1) false false) q).2).2.1 ((stepsR sr f9 (stepN sr f9 n (w + 1) false false) q).2).2.2.1 ((stepsR sr f9 (stepN sr f9 n (w + 1) false false) q).2).2.2.2.1 ((stepsR sr f9 (stepN sr f9 n (w + 1) false false) q).2).2.2.2.2 f14 f16 f18 s) m kp was pool tape pln pap rwd rw ∧ Same (mBlk x) h h') := by
      intro hw q h hB hq
      have z := m_isStepsRead (G := G) (l := l) (w := w + 1) (it := false) (st := stepN sr f9 n (w + 1) false false) (D := 3 * n + 6) hB hT hq (stepN_p n _ _ _) (fun q h hB hq => by
        have y := ih (w + 1) false false (by omega) (by omega) (by simp only [Bool.false_eq_true, if_false] at hn ⊢; split at hn <;> omega) q h hB hq
        rw [show bz false = 0 from bz_f (by decide)] at y
        rw [show bz false = 0 from bz_f (by decide)]
        exact y)
      rw [show bz false = 0 from bz_f (by decide)] at z
      exact z
    have hTk : ∀ (q : PS) (h : mH), isM h x (mFs x f4 f6 q.1 f9 q.2.1 q.2.2.1 q.2.2.2.1 q.2.2.2.2 f14 f16 f18 s) m kp was pool tape pln pap rwd rw → psOk f9 q → RUNM G l (3 * n + 3 + 5) mX11_isTakeRead [.ref x, .int (J w)] h (fun v h' => v = some (.int (J (bz (takeG sr f9 (stepsR sr f9 (stepN sr f9 n (w + 1) false false)) w q).1))) ∧ isM h' x (mFs x f4 f6 ((takeG sr f9 (stepsR sr f9 (stepN sr f9 n (w + 1) false false)) w q).2).1 f9 ((takeG sr f9 (stepsR sr f9 (stepN sr f9 n (w + 1) false false)) w q).2).2.1 ((takeG sr f9 (stepsR sr f9 (stepN sr f9 n (w + 1) false false)) w q).2).2.2.1 ((takeG sr f9 (stepsR sr f9 (stepN sr f9 n (w + 1) false false)) w q).2).2.2.2.1 ((takeG sr f9 (stepsR sr f9 (stepN sr f9 n (w + 1) false false)) w q).2).2.2.2.2 f14 f16 f18 s) m kp was pool tape pln pap rwd rw ∧ Same (mBlk x) h h') := by
      intro q h hB hq
      exact m_isTakeRead (G := G) (l := l) 5 (e := 3 * n) hB hT hq h0 h3 (fun q hq => (stepsR_p (stepN_p n _ _ _) q hq).1) hSt
    have hIn : bh = false → ∀ (q : PS) (h : mH), isM h x (mFs x f4 f6 q.1 f9 q.2.1 q.2.2.1 q.2.2.2.1 q.2.2.2.2 f14 f16 f18 s) m kp was pool tape pln pap rwd rw → psOk f9 q → RUNM G l (3 * n + 3 + 5) mX11_isStepRead [.ref x, .int (J w), .int (J 0), .int (J 1)] h (fun v h' => v = some (.int (J (bz (stepN sr f9 n w false true q).1))) ∧ isM h' x (mFs x f4 f6 ((stepN sr f9 n w false true q).2).1 f9 ((stepN sr f9 n w false true q).2).2.1 ((stepN sr f9 n w false true q).2).2.2.1 ((stepN sr f9 n w false true q).2).2.2.2.1 ((stepN sr f9 n w false true q).2).2.2.2.2 f14 f16 f18 s) m kp was pool tape pln pap rwd rw ∧ Same (mBlk x) h h') := by
      intro hb q h hB hq
      have y := ih w false true h0 h3 (by rw [hb] at hn; simp only [Bool.false_eq_true, if_false, if_true] at hn ⊢; omega) q h hB hq
      rw [show bz false = 0 from bz_f (by decide), show bz true = 1 from bz_t rfl] at y
      exact y.deeper (by omega)
    exact m_isStepRead (G := G) (l := l) 0 (n := 3 * n + 3) hB hT hq hTk hIn
end mg_26
section mg_27
/-! ===== contracts of the reference: texts from end to end, the tape ===== -/
set_option maxHeartbeats 4000000 in
set_option maxRecDepth 100000 in
theorem m_begins {G : mG} {l : Launch} (d : Nat) {h : mH} {x s : Nat} {f4 f6 f8 f9 f10 f11 f12 f13 f14 f16 f18 : Int} {m kp was pool tape pln pap rwd rw : Nat → Int}(hB : isM h x (mFs x f4 f6 f8 f9 f10 f11 f12 f13 f14 f16 f18 s) m kp was pool tape pln pap rwd rw) {s2 : Nat} {a b : Int} : RUNM G l (d) mX11_begins [.ref x, .ref (mAd x s2), .int (J a), .int (J b)] h (fun v h' => v = none ∧ isM h' x (mFs x f4 f6 a b (-1) f11 f12 0 f14 f16 f18 s2) m kp was pool tape pln pap rwd rw ∧ Same (mBlk x) h h') := by
  dsimp only [mFs] at hB
  refine RUNM.of (by decide +kernel) (Nat.le_of_ble_eq_true rfl) ?_
  refine r_aload_n (pc := 0) dX11_begins_0 rfl (by first | rfl | exact isRefV_rf _) ?_
  refine r_aload_n (pc := 1) dX11_begins_1 rfl (by first | rfl | exact isRefV_rf _) ?_
  refine rm_putf (pc := 2) dX11_begins_2 fX11_27 (by assumption) rfl rfl (Nat.le_of_ble_eq_true rfl) (fun h_2 hB_2 hS_2 => ?_)
  dsimp only [List.set, mFs] at hB_2
  refine r_aload_n (pc := 5) dX11_begins_5 rfl (by first | rfl | exact isRefV_rf _) ?_
  refine r_iload_n (pc := 6) dX11_begins_6 rfl ?_
  refine rm_putf (pc := 7) dX11_begins_7 fX11_65 (by assumption) rfl rfl (Nat.le_of_ble_eq_true rfl) (fun h_7 hB_7 hS_7 => ?_)
  dsimp only [List.set, mFs] at hB_7
  refine r_aload_n (pc := 10) dX11_begins_10 rfl (by first | rfl | exact isRefV_rf _) ?_
  refine r_iload_n (pc := 11) dX11_begins_11 rfl ?_
  refine rm_putf (pc := 12) dX11_begins_12 fX11_68 (by assumption) rfl rfl (Nat.le_of_ble_eq_true rfl) (fun h_12 hB_12 hS_12 => ?_)
  dsimp only [List.set, mFs] at hB_12
  refine r_aload_n (pc := 15) dX11_begins_15 rfl (by first | rfl | exact isRefV_rf _) ?_
  refine rj_iconst (pc := 16) dX11_begins_16 ?_
  refine rm_putf (pc := 17) dX11_begins_17 fX11_71 (by assumption) rfl rfl (Nat.le_of_ble_eq_true rfl) (fun h_17 hB_17 hS_17 => ?_)
  dsimp only [List.set, mFs] at hB_17
  refine r_aload_n (pc := 20) dX11_begins_20 rfl (by first | rfl | exact isRefV_rf _) ?_
  refine rj_iconst (pc := 21) dX11_begins_21 ?_
  refine rm_putf (pc := 22) dX11_begins_22 fX11_99 (by assumption) rfl rfl (Nat.le_of_ble_eq_true rfl) (fun h_22 hB_22 hS_22 => ?_)
  dsimp only [List.set, mFs] at hB_22
  refine r_return (pc := 25) dX11_begins_25 rfl ?_
  exact ⟨rfl, hB_22, (((hS_2.trans hS_7).trans hS_12).trans hS_17).trans hS_22⟩
def wholeR (len : Int) (q : PS) : Bool × PS := if q.1 = len ∧ q.2.2.2.2 = 0 then (true, q) else (false, failF q.1 q)
set_option maxHeartbeats 4000000 in
set_option maxRecDepth 100000 in
theorem m_isWhole {G : mG} {l : Launch} (d : Nat) {h : mH} {x s : Nat} {f4 f6 f9 f14 f16 f18 : Int} {q : PS} {m kp was pool tape pln pap rwd rw sr : Nat → Int} (hB : isM h x (mFs x f4 f6 q.1 f9 q.2.1 q.2.2.1 q.2.2.2.1 q.2.2.2.2 f14 f16 f18 s) m kp was pool tape pln pap rwd rw) (hT : txOk s sr pool tape f9) (hq : psOk f9 q) : RUNM G l (d + 1) mX11_isWhole [.ref x] h (fun v h' => v = some (.int (J (bz (wholeR f9 q).1))) ∧ isM h' x (mFs x f4 f6 ((wholeR f9 q).2).1 f9 ((wholeR f9 q).2).2.1 ((wholeR f9 q).2).2.2.1 ((wholeR f9 q).2).2.2.2.1 ((wholeR f9 q).2).2.2.2.2 f14 f16 f18 s) m kp was pool tape pln pap rwd rw ∧ Same (mBlk x) h h') := by
  dsimp only [mFs] at hB
  refine RUNM.of (by decide +kernel) (Nat.le_of_ble_eq_true rfl) ?_
  have hB0 := hB
  obtain ⟨hq1, hq2, hq3, hq4, hq5, hq6, hq7, hq8⟩ := id hq
  obtain ⟨hs, hl0, hby⟩ := id hT
  have h97 : f9 ≤ 12342 := by rcases hs with h | h <;> omega
  refine r_aload_n (pc := 0) dX11_isWhole_0 rfl (by first | rfl | exact isRefV_rf _) ?_
  refine rm_getf (pc := 1) dX11_isWhole_1 fX11_65 (by assumption) rfl ?_
  refine r_aload_n (pc := 4) dX11_isWhole_4 rfl (by first | rfl | exact isRefV_rf _) ?_
  refine rm_getf (pc := 5) dX11_isWhole_5 fX11_68 (by assumption) rfl ?_
  refine rj_icmp_ne (pc := 8) (tgt := 18) dX11_isWhole_8 (by decide) (by first | assumption | exact b01_r | exact bz_r | omega | (constructor <;> omega) | exact hM _ | exact hPo _ | exact hTa _ | exact hRo _) (by first | assumption | exact b01_r | exact bz_r | omega | (constructor <;> omega) | exact hM _ | exact hPo _ | exact hTa _ | exact hRo _) (fun c_8 => ?_) (fun c_8 => ?_)
  · refine r_aload_n (pc := 18) dX11_isWhole_18 rfl (by first | rfl | exact isRefV_rf _) ?_
    refine r_aload_n (pc := 19) dX11_isWhole_19 rfl (by first | rfl | exact isRefV_rf _) ?_
    refine rm_getf (pc := 20) dX11_isWhole_20 fX11_65 (by assumption) rfl ?_
    refine r_callV1 (pc := 23) dX11_isWhole_23 qX11_fails kX11_78 vX11_fails (by exact isM.gx (by assumption)) rfl rfl (Nat.le_of_ble_eq_true rfl) (m_fails d hB0 hT hq) (fun v_23 h_23 q_23 => ?_)
    obtain ⟨rfl, hB_23, hS_23⟩ := q_23
    refine rj_if_eq (pc := 26) (tgt := 33) dX11_isWhole_26 (by decide) (by first | assumption | exact b01_r | exact bz_r | omega | (constructor <;> omega) | exact hM _ | exact hPo _ | exact hTa _ | exact hRo _) (fun c_26 => ?_) (fun c_26 => ?_)
    · try simp only [b01_0, bz_0, Classical.not_not] at c_26
      refine rj_iconst (pc := 33) dX11_isWhole_33 ?_
      refine r_ireturn (pc := 34) .boolean dX11_isWhole_34 rfl (by first | exact nar_J0 | exact nar_J1 | exact nar_b01 | exact nar_bz) ?_
      first
      | exact ⟨by unfold wholeR; rw [if_pos ⟨by omega, by omega⟩]; exact bzT, by unfold wholeR; rw [if_pos ⟨by omega, by omega⟩]; exact hB0, Same.refl⟩
      | exact ⟨by unfold wholeR; rw [if_neg (by omega)]; exact bzF, by unfold wholeR; rw [if_neg (by omega)]; exact hB_23, hS_23⟩
      | exact absurd trivial c_26
    · try simp only [b01_0, bz_0, Classical.not_not] at c_26
      refine rj_iconst (pc := 29) dX11_isWhole_29 ?_
      refine r_goto (pc := 30) (tgt := 34) dX11_isWhole_30 (by decide) ?_
      refine r_ireturn (pc := 34) .boolean dX11_isWhole_34 rfl (by first | exact nar_J0 | exact nar_J1 | exact nar_b01 | exact nar_bz) ?_
      first
      | exact ⟨by unfold wholeR; rw [if_pos ⟨by omega, by omega⟩]; exact bzT, by unfold wholeR; rw [if_pos ⟨by omega, by omega⟩]; exact hB0, Same.refl⟩
      | exact ⟨by unfold wholeR; rw [if_neg (by omega)]; exact bzF, by unfold wholeR; rw [if_neg (by omega)]; exact hB_23, hS_23⟩
      | exact absurd trivial c_26
  · refine r_aload_n (pc := 11) dX11_isWhole_11 rfl (by first | rfl | exact isRefV_rf _) ?_
    refine rm_getf (pc := 12) dX11_isWhole_12 fX11_99 (by assumption) rfl ?_
    refine rj_if_eq (pc := 15) (tgt := 29) dX11_isWhole_15 (by decide) (by first | assumption | exact b01_r | exact bz_r | omega | (constructor <;> omega) | exact hM _ | exact hPo _ | exact hTa _ | exact hRo _) (fun c_15 => ?_) (fun c_15 => ?_)
    · try simp only [b01_0, bz_0, Classical.not_not] at c_15
      refine rj_iconst (pc := 29) dX11_isWhole_29 ?_
      refine r_goto (pc := 30) (tgt := 34) dX11_isWhole_30 (by decide) ?_
      refine r_ireturn (pc := 34) .boolean dX11_isWhole_34 rfl (by first | exact nar_J0 | exact nar_J1 | exact nar_b01 | exact nar_bz) ?_
      first
      | exact ⟨by unfold wholeR; rw [if_pos ⟨by omega, by omega⟩]; exact bzT, by unfold wholeR; rw [if_pos ⟨by omega, by omega⟩]; exact hB0, Same.refl⟩
      | exact ⟨by unfold wholeR; rw [if_neg (by omega)]; exact bzF, by unfold wholeR; rw [if_neg (by omega)]; exact hB_23, hS_23⟩
      | exact absurd trivial c_26
    · try simp only [b01_0, bz_0, Classical.not_not] at c_15
      refine r_aload_n (pc := 18) dX11_isWhole_18 rfl (by first | rfl | exact isRefV_rf _) ?_
      refine r_aload_n (pc := 19) dX11_isWhole_19 rfl (by first | rfl | exact isRefV_rf _) ?_
      refine rm_getf (pc := 20) dX11_isWhole_20 fX11_65 (by assumption) rfl ?_
      refine r_callV1 (pc := 23) dX11_isWhole_23 qX11_fails kX11_78 vX11_fails (by exact isM.gx (by assumption)) rfl rfl (Nat.le_of_ble_eq_true rfl) (m_fails d hB0 hT hq) (fun v_23 h_23 q_23 => ?_)
      obtain ⟨rfl, hB_23, hS_23⟩ := q_23
      refine rj_if_eq (pc := 26) (tgt := 33) dX11_isWhole_26 (by decide) (by first | assumption | exact b01_r | exact bz_r | omega | (constructor <;> omega) | exact hM _ | exact hPo _ | exact hTa _ | exact hRo _) (fun c_26 => ?_) (fun c_26 => ?_)
      · try simp only [b01_0, bz_0, Classical.not_not] at c_26
        refine rj_iconst (pc := 33) dX11_isWhole_33 ?_
        refine r_ireturn (pc := 34) .boolean dX11_isWhole_34 rfl (by first | exact nar_J0 | exact nar_J1 | exact nar_b01 | exact nar_bz) ?_
        first
        | exact ⟨by unfold wholeR; rw [if_pos ⟨by omega, by omega⟩]; exact bzT, by unfold wholeR; rw [if_pos ⟨by omega, by omega⟩]; exact hB0, Same.refl⟩
        | exact ⟨by unfold wholeR; rw [if_neg (by omega)]; exact bzF, by unfold wholeR; rw [if_neg (by omega)]; exact hB_23, hS_23⟩
        | exact absurd trivial c_26
      · try simp only [b01_0, bz_0, Classical.not_not] at c_26
        refine rj_iconst (pc := 29) dX11_isWhole_29 ?_
        refine r_goto (pc := 30) (tgt := 34) dX11_isWhole_30 (by decide) ?_
        refine r_ireturn (pc := 34) .boolean dX11_isWhole_34 rfl (by first | exact nar_J0 | exact nar_J1 | exact nar_b01 | exact nar_bz) ?_
        first
        | exact ⟨by unfold wholeR; rw [if_pos ⟨by omega, by omega⟩]; exact bzT, by unfold wholeR; rw [if_pos ⟨by omega, by omega⟩]; exact hB0, Same.refl⟩
        | exact ⟨by unfold wholeR; rw [if_neg (by omega)]; exact bzF, by unfold wholeR; rw [if_neg (by omega)]; exact hB_23, hS_23⟩
        | exact absurd trivial c_26
set_option maxHeartbeats 4000000 in
set_option maxRecDepth 100000 in
theorem m_clear {G : mG} {l : Launch} (d : Nat) {h : mH} {x s : Nat} {f4 f6 f8 f9 f10 f11 f12 f13 f14 f16 f18 : Int} {m kp was pool tape pln pap rwd rw : Nat → Int}(hB : isM h x (mFs x f4 f6 f8 f9 f10 f11 f12 f13 f14 f16 f18 s) m kp was pool tape pln pap rwd rw) : RUNM G l (d) mX11_clear [.ref x] h (fun v h' => v = some (.int (J f6)) ∧ isM h' x (mFs x f4 0 f8 f9 f10 f11 f12 f13 f14 f16 f18 s) m kp was pool tape pln pap rwd rw ∧ Same (mBlk x) h h') := by
  dsimp only [mFs] at hB
  refine RUNM.of (by decide +kernel) (Nat.le_of_ble_eq_true rfl) ?_
  refine r_aload_n (pc := 0) dX11_clear_0 rfl (by first | rfl | exact isRefV_rf _) ?_
  refine rm_getf (pc := 1) dX11_clear_1 fX11_61 (by assumption) rfl ?_
  refine r_istore_n (pc := 4) dX11_clear_4 (Nat.le_of_ble_eq_true rfl) ?_
  dsimp only [lsSt, List.set, mLs, mEnt]
  refine r_aload_n (pc := 5) dX11_clear_5 rfl (by first | rfl | exact isRefV_rf _) ?_
  refine rj_iconst (pc := 6) dX11_clear_6 ?_
  refine rm_putf (pc := 7) dX11_clear_7 fX11_61 (by assumption) rfl rfl (Nat.le_of_ble_eq_true rfl) (fun h_7 hB_7 hS_7 => ?_)
  dsimp only [List.set, mFs] at hB_7
  refine r_iload_n (pc := 10) dX11_clear_10 rfl ?_
  refine r_ireturn (pc := 11) .int dX11_clear_11 rfl (by first | rfl | assumption) ?_
  exact ⟨rfl, hB_7, hS_7⟩
def feedV (f6 c : Int) : Int := if 1 ≤ c ∧ c ≤ 127 then (if f6 = 120 then -4 else f6 + 1) else -2
def feedC (f6 c : Int) : Prop := (1 ≤ c ∧ c ≤ 127) ∧ ¬ f6 = 120
set_option maxHeartbeats 4000000 in
set_option maxRecDepth 100000 in
theorem m_feed {G : mG} {l : Launch} (d : Nat) {h : mH} {x s : Nat} {f4 f6 f8 f9 f10 f11 f12 f13 f14 f16 f18 : Int} {m kp was pool tape pln pap rwd rw : Nat → Int}(hB : isM h x (mFs x f4 f6 f8 f9 f10 f11 f12 f13 f14 f16 f18 s) m kp was pool tape pln pap rwd rw) {c : Int} (hc : InR c) (h0 : 0 ≤ f6) (h1 : f6 ≤ 120) : RUNM G l (d + 1) mX11_feed [.ref x, .int (J c)] h (fun v h' => v = some (.int (J (feedV f6 c))) ∧ ((¬ feedC f6 c ∧ h' = h) ∨ (feedC f6 c ∧ isM h' x (mFs x f4 (f6 + 1) f8 f9 f10 f11 f12 f13 f14 f16 f18 s) m kp was pool (updI tape f6.toNat c) pln pap rwd rw ∧ Same (mBlk x) h h'))) := by
  dsimp only [mFs] at hB
  refine RUNM.of (by decide +kernel) (Nat.le_of_ble_eq_true rfl) ?_
  refine r_iload_n (pc := 0) dX11_feed_0 rfl ?_
  refine rj_iconst (pc := 1) dX11_feed_1 ?_
  refine rj_bipush (pc := 2) dX11_feed_2 (by decide +kernel) ?_
  refine r_callS3 (pc := 4) dX11_feed_4 qX11_isIn kX11_46 sX11_isIn (Nat.le_of_ble_eq_true rfl) (m_isIn d hc (by decide) (by decide)) (fun v_4 h_4 q_4 => ?_)
  obtain ⟨rfl, rfl⟩ := q_4
  refine rj_if_ne (pc := 7) (tgt := 13) dX11_feed_7 (by decide) (by first | assumption | exact b01_r | exact bz_r | omega | (constructor <;> omega) | exact hM _ | exact hPo _ | exact hTa _ | exact hRo _) (fun c_7 => ?_) (fun c_7 => ?_)
  · try simp only [b01_0, bz_0, Classical.not_not] at c_7
    refine r_aload_n (pc := 13) dX11_feed_13 rfl (by first | rfl | exact isRefV_rf _) ?_
    refine rm_getf (pc := 14) dX11_feed_14 fX11_61 (by assumption) rfl ?_
    refine rj_bipush (pc := 17) dX11_feed_17 (by decide +kernel) ?_
    refine rj_icmp_ne (pc := 19) (tgt := 25) dX11_feed_19 (by decide) (by first | assumption | exact b01_r | exact bz_r | omega | (constructor <;> omega) | exact hM _ | exact hPo _ | exact hTa _ | exact hRo _) (by first | assumption | exact b01_r | exact bz_r | omega | (constructor <;> omega) | exact hM _ | exact hPo _ | exact hTa _ | exact hRo _) (fun c_19 => ?_) (fun c_19 => ?_)
    · refine r_aload_n (pc := 25) dX11_feed_25 rfl (by first | rfl | exact isRefV_rf _) ?_
      refine rm_getf (pc := 26) dX11_feed_26 fX11_24 (by assumption) rfl ?_
      refine r_aload_n (pc := 29) dX11_feed_29 rfl (by first | rfl | exact isRefV_rf _) ?_
      refine rm_getf (pc := 30) dX11_feed_30 fX11_61 (by assumption) rfl ?_
      refine r_iload_n (pc := 33) dX11_feed_33 rfl ?_
      first | refine rm_iast4 (pc := 34) dX11_feed_34 (by assumption) (by first | assumption | exact b01_r | exact bz_r | omega | (constructor <;> omega) | exact hM _ | exact hPo _ | exact hTa _ | exact hRo _) (by first | assumption | exact b01_r | exact bz_r | omega | (constructor <;> omega) | exact hM _ | exact hPo _ | exact hTa _ | exact hRo _) (by first | assumption | exact b01_r | exact bz_r | omega | (constructor <;> omega) | exact hM _ | exact hPo _ | exact hTa _ | exact hRo _) rfl (fun h_34 hB_34 hS_34 => ?_)
      try simp only [Int.reduceToNat] at hB_34
      refine r_aload_n (pc := 35) dX11_feed_35 rfl (by first | rfl | exact isRefV_rf _) ?_
      refine r_dup (pc := 36) dX11_feed_36 (by first | rfl | (cases ‹Option Nat› <;> rfl)) ?_
      refine rm_getf (pc := 37) dX11_feed_37 fX11_61 (by assumption) rfl ?_
      refine rj_iconst (pc := 40) dX11_feed_40 ?_
      refine rj_iadd (pc := 41) dX11_feed_41 ?_
      refine rm_putf (pc := 42) dX11_feed_42 fX11_61 (by assumption) rfl rfl (Nat.le_of_ble_eq_true rfl) (fun h_42 hB_42 hS_42 => ?_)
      dsimp only [List.set, mFs] at hB_42
      refine r_aload_n (pc := 45) dX11_feed_45 rfl (by first | rfl | exact isRefV_rf _) ?_
      refine rm_getf (pc := 46) dX11_feed_46 fX11_61 (by assumption) rfl ?_
      refine r_ireturn (pc := 49) .int dX11_feed_49 rfl (by first | rfl | assumption) ?_
      exact ⟨by unfold feedV; rw [if_pos c_7, if_neg c_19], Or.inr ⟨⟨c_7, c_19⟩, hB_42, hS_34.trans hS_42⟩⟩
    · refine rj_bipush (pc := 22) dX11_feed_22 (by decide +kernel) ?_
      refine r_ireturn (pc := 24) .int dX11_feed_24 rfl (by first | rfl | assumption) ?_
      exact ⟨by unfold feedV; rw [if_pos c_7, if_pos c_19], Or.inl ⟨fun g => g.2 c_19, rfl⟩⟩
  · try simp only [b01_0, bz_0, Classical.not_not] at c_7
    refine rj_bipush (pc := 10) dX11_feed_10 (by decide +kernel) ?_
    refine r_ireturn (pc := 12) .int dX11_feed_12 rfl (by first | rfl | assumption) ?_
    exact ⟨by unfold feedV; rw [if_neg c_7], Or.inl ⟨fun g => c_7 g.1, rfl⟩⟩
def movesM (m : Nat → Int) (t : Nat) (s : Int) : Nat → Int := updI (updI (updI m (259 + 14 * t) s) 6 (m 6 + 1)) (260 + 14 * t) (m 6 + 1)
set_option maxHeartbeats 4000000 in
set_option maxRecDepth 100000 in
theorem m_moves {G : mG} {l : Launch} (d : Nat) {h : mH} {x s : Nat} {f4 f6 f8 f9 f10 f11 f12 f13 f14 f16 f18 : Int} {m kp was pool tape pln pap rwd rw : Nat → Int}(hB : isM h x (mFs x f4 f6 f8 f9 f10 f11 f12 f13 f14 f16 f18 s) m kp was pool tape pln pap rwd rw) {t : Nat} (ht : t ≤ 89) {b : Int} : RUNM G l (d + 1) mX11_moves [.ref x, .int (J (t : Int)), .int (J b)] h (fun v h' => v = none ∧ isM h' x (mFs x f4 f6 f8 f9 f10 f11 f12 f13 f14 f16 f18 s) (movesM m t b) kp was pool tape pln pap rwd rw ∧ Same (mBlk x) h h') := by
  dsimp only [mFs] at hB
  refine RUNM.of (by decide +kernel) (Nat.le_of_ble_eq_true rfl) ?_
  refine r_aload_n (pc := 0) dX11_moves_0 rfl (by first | rfl | exact isRefV_rf _) ?_
  refine rm_getf (pc := 1) dX11_moves_1 fX11_11 (by assumption) rfl ?_
  refine r_iload_n (pc := 4) dX11_moves_4 rfl ?_
  refine rj_iconst (pc := 5) dX11_moves_5 ?_
  refine rj_iconst (pc := 6) dX11_moves_6 ?_
  refine r_callS3 (pc := 7) dX11_moves_7 qX11_ofThing kX11_54 sX11_ofThing (Nat.le_of_ble_eq_true rfl) (m_ofThing d) (fun v_7 h_7 q_7 => ?_)
  obtain ⟨rfl, rfl⟩ := q_7
  refine r_iload_n (pc := 10) dX11_moves_10 rfl ?_
  first | refine rm_iast0 (pc := 11) (j := 259 + 14 * t) dX11_moves_11 (by assumption) (by first | assumption | exact b01_r | exact bz_r | omega | (constructor <;> omega) | exact hM _ | exact hPo _ | exact hTa _ | exact hRo _) (by first | assumption | exact b01_r | exact bz_r | omega | (constructor <;> omega) | exact hM _ | exact hPo _ | exact hTa _ | exact hRo _) (by first | assumption | exact b01_r | exact bz_r | omega | (constructor <;> omega) | exact hM _ | exact hPo _ | exact hTa _ | exact hRo _) (by omega) (fun h_11 hB_11 hS_11 => ?_)
  refine r_aload_n (pc := 12) dX11_moves_12 rfl (by first | rfl | exact isRefV_rf _) ?_
  refine rm_getf (pc := 13) dX11_moves_13 fX11_11 (by assumption) rfl ?_
  refine r_iload_n (pc := 16) dX11_moves_16 rfl ?_
  refine rj_iconst (pc := 17) dX11_moves_17 ?_
  refine rj_iconst (pc := 18) dX11_moves_18 ?_
  refine r_callS3 (pc := 19) dX11_moves_19 qX11_ofThing kX11_54 sX11_ofThing (Nat.le_of_ble_eq_true rfl) (m_ofThing d) (fun v_19 h_19 q_19 => ?_)
  obtain ⟨rfl, rfl⟩ := q_19
  refine r_aload_n (pc := 22) dX11_moves_22 rfl (by first | rfl | exact isRefV_rf _) ?_
  refine r_callV0 (pc := 23) dX11_moves_23 qX11_stamp kX11_126 vX11_stamp (by exact isM.gx (by assumption)) rfl rfl (Nat.le_of_ble_eq_true rfl) (m_stamp d hB_11) (fun v_23 h_23 q_23 => ?_)
  obtain ⟨rfl, hB_23, hS_23⟩ := q_23
  rw [updI_n (by omega)] at hB_23 ⊢
  first | refine rm_iast0 (pc := 26) (j := 260 + 14 * t) dX11_moves_26 (by assumption) (by first | assumption | exact b01_r | exact bz_r | omega | (constructor <;> omega) | exact hM _ | exact hPo _ | exact hTa _ | exact hRo _) (by first | assumption | exact b01_r | exact bz_r | omega | (constructor <;> omega) | exact hM _ | exact hPo _ | exact hTa _ | exact hRo _) (by first | assumption | exact b01_r | exact bz_r | omega | (constructor <;> omega) | exact hM _ | exact hPo _ | exact hTa _ | exact hRo _) (by omega) (fun h_26 hB_26 hS_26 => ?_)
  refine r_return (pc := 27) dX11_moves_27 rfl ?_
  exact ⟨rfl, hB_26, (hS_11.trans hS_23).trans hS_26⟩
end mg_27
section mg_28
/-! ===== contracts of the reference: looking through the pool ===== -/
def neL (pool : Nat → Int) : Nat → Nat → Nat
  | 0, k => k
  | n + 1, k => if 97 ≤ pool k ∧ pool k ≤ 122 then neL pool n (k + 1) else k
set_option maxHeartbeats 4000000 in
set_option maxRecDepth 100000 in
theorem L_nameEnd {G : mG} {l : Launch} (d : Nat) {h : mH} {x s : Nat} {f4 f6 f8 f9 f10 f11 f12 f13 f14 f16 f18 : Int} {m kp was pool tape pln pap rwd rw : Nat → Int}(hB : isM h x (mFs x f4 f6 f8 f9 f10 f11 f12 f13 f14 f16 f18 s) m kp was pool tape pln pap rwd rw) (hPo : ∀ q, InR (pool q)) {p : Nat} (hp : p + 8 ≤ 12342) : ∀ n k : Nat, p ≤ k → (k - p) + n = 7 → RUN G l (d + 1) mX11_nameEnd 2 [some (.ref x), some (.int (J (p : Int))), some (.int (J (k : Int)))] [] h (fun v h' => v = some (.int (J (neL pool n k : Nat))) ∧ h' = h) := by
  dsimp only [mFs] at hB
  intro n
  induction n with
  | zero =>
    intro k hk hn
    refine r_iload_n (pc := 2) dX11_nameEnd_2 rfl ?_
    refine r_iload_n (pc := 3) dX11_nameEnd_3 rfl ?_
    refine rj_isub (pc := 4) dX11_nameEnd_4 ?_
    refine rj_bipush (pc := 5) dX11_nameEnd_5 (by decide +kernel) ?_
    refine rj_icmp_ge (pc := 7) (tgt := 32) dX11_nameEnd_7 (by decide) (by first | assumption | exact b01_r | exact bz_r | omega | (constructor <;> omega) | exact hM _ | exact hPo _ | exact hTa _ | exact hRo _) (by first | assumption | exact b01_r | exact bz_r | omega | (constructor <;> omega) | exact hM _ | exact hPo _ | exact hTa _ | exact hRo _) (fun c_7 => ?_) (fun c_7 => ?_)
    · refine r_iload_n (pc := 32) dX11_nameEnd_32 rfl ?_
      refine r_ireturn (pc := 33) .int dX11_nameEnd_33 rfl (by first | rfl | assumption) ?_
      first
      | exact ⟨rfl, rfl⟩
      | (exfalso; omega)
    · refine r_aload_n (pc := 10) dX11_nameEnd_10 rfl (by first | rfl | exact isRefV_rf _) ?_
      refine rm_getf (pc := 11) dX11_nameEnd_11 fX11_21 (by assumption) rfl ?_
      refine r_iload_n (pc := 14) dX11_nameEnd_14 rfl ?_
      refine rj_iald (pc := 15) (j := k) dX11_nameEnd_15 (by first | exact isM.g0 (by assumption) | exact isM.g3 (by assumption) | exact isM.g4 (by assumption) | exact isM.g8 (by assumption) | exact isM.g7 (by assumption) | exact isM.g6 (by assumption) | exact isM.g5 (by assumption) | exact isM.g1 (by assumption) | exact isM.g2 (by assumption)) (by first | assumption | exact b01_r | exact bz_r | omega | (constructor <;> omega) | exact hM _ | exact hPo _ | exact hTa _ | exact hRo _) (by first | assumption | exact b01_r | exact bz_r | omega | (constructor <;> omega) | exact hM _ | exact hPo _ | exact hTa _ | exact hRo _) (by first | assumption | exact b01_r | exact bz_r | omega | (constructor <;> omega) | exact hM _ | exact hPo _ | exact hTa _ | exact hRo _) (by omega) ?_
      refine rj_bipush (pc := 16) dX11_nameEnd_16 (by decide +kernel) ?_
      refine rj_bipush (pc := 18) dX11_nameEnd_18 (by decide +kernel) ?_
      refine r_callS3 (pc := 20) dX11_nameEnd_20 qX11_isIn kX11_46 sX11_isIn (Nat.le_of_ble_eq_true rfl) (m_isIn d (hPo _) (by decide) (by decide)) (fun v_20 h_20 q_20 => ?_)
      obtain ⟨rfl, rfl⟩ := q_20
      refine rj_if_eq (pc := 23) (tgt := 32) dX11_nameEnd_23 (by decide) (by first | assumption | exact b01_r | exact bz_r | omega | (constructor <;> omega) | exact hM _ | exact hPo _ | exact hTa _ | exact hRo _) (fun c_23 => ?_) (fun c_23 => ?_)
      · try simp only [b01_0, bz_0, Classical.not_not] at c_23
        refine r_iload_n (pc := 32) dX11_nameEnd_32 rfl ?_
        refine r_ireturn (pc := 33) .int dX11_nameEnd_33 rfl (by first | rfl | assumption) ?_
        first
        | exact ⟨rfl, rfl⟩
        | (exfalso; omega)
      · try simp only [b01_0, bz_0, Classical.not_not] at c_23
        refine rj_iinc (pc := 26) dX11_nameEnd_26 (Nat.le_of_ble_eq_true rfl) rfl ?_
        dsimp only [lsSt, List.set, mLs, mEnt]
        refine r_goto (pc := 29) (tgt := 2) dX11_nameEnd_29 (by decide) ?_
        exfalso; omega
  | succ n ih =>
    intro k hk hn
    refine r_iload_n (pc := 2) dX11_nameEnd_2 rfl ?_
    refine r_iload_n (pc := 3) dX11_nameEnd_3 rfl ?_
    refine rj_isub (pc := 4) dX11_nameEnd_4 ?_
    refine rj_bipush (pc := 5) dX11_nameEnd_5 (by decide +kernel) ?_
    refine rj_icmp_ge (pc := 7) (tgt := 32) dX11_nameEnd_7 (by decide) (by first | assumption | exact b01_r | exact bz_r | omega | (constructor <;> omega) | exact hM _ | exact hPo _ | exact hTa _ | exact hRo _) (by first | assumption | exact b01_r | exact bz_r | omega | (constructor <;> omega) | exact hM _ | exact hPo _ | exact hTa _ | exact hRo _) (fun c_7 => ?_) (fun c_7 => ?_)
    · refine r_iload_n (pc := 32) dX11_nameEnd_32 rfl ?_
      refine r_ireturn (pc := 33) .int dX11_nameEnd_33 rfl (by first | rfl | assumption) ?_
      first
      | (exfalso; omega)
      | exact ⟨by rw [neL, if_neg c_23], rfl⟩
    · refine r_aload_n (pc := 10) dX11_nameEnd_10 rfl (by first | rfl | exact isRefV_rf _) ?_
      refine rm_getf (pc := 11) dX11_nameEnd_11 fX11_21 (by assumption) rfl ?_
      refine r_iload_n (pc := 14) dX11_nameEnd_14 rfl ?_
      refine rj_iald (pc := 15) (j := k) dX11_nameEnd_15 (by first | exact isM.g0 (by assumption) | exact isM.g3 (by assumption) | exact isM.g4 (by assumption) | exact isM.g8 (by assumption) | exact isM.g7 (by assumption) | exact isM.g6 (by assumption) | exact isM.g5 (by assumption) | exact isM.g1 (by assumption) | exact isM.g2 (by assumption)) (by first | assumption | exact b01_r | exact bz_r | omega | (constructor <;> omega) | exact hM _ | exact hPo _ | exact hTa _ | exact hRo _) (by first | assumption | exact b01_r | exact bz_r | omega | (constructor <;> omega) | exact hM _ | exact hPo _ | exact hTa _ | exact hRo _) (by first | assumption | exact b01_r | exact bz_r | omega | (constructor <;> omega) | exact hM _ | exact hPo _ | exact hTa _ | exact hRo _) (by omega) ?_
      refine rj_bipush (pc := 16) dX11_nameEnd_16 (by decide +kernel) ?_
      refine rj_bipush (pc := 18) dX11_nameEnd_18 (by decide +kernel) ?_
      refine r_callS3 (pc := 20) dX11_nameEnd_20 qX11_isIn kX11_46 sX11_isIn (Nat.le_of_ble_eq_true rfl) (m_isIn d (hPo _) (by decide) (by decide)) (fun v_20 h_20 q_20 => ?_)
      obtain ⟨rfl, rfl⟩ := q_20
      refine rj_if_eq (pc := 23) (tgt := 32) dX11_nameEnd_23 (by decide) (by first | assumption | exact b01_r | exact bz_r | omega | (constructor <;> omega) | exact hM _ | exact hPo _ | exact hTa _ | exact hRo _) (fun c_23 => ?_) (fun c_23 => ?_)
      · try simp only [b01_0, bz_0, Classical.not_not] at c_23
        refine r_iload_n (pc := 32) dX11_nameEnd_32 rfl ?_
        refine r_ireturn (pc := 33) .int dX11_nameEnd_33 rfl (by first | rfl | assumption) ?_
        first
        | (exfalso; omega)
        | exact ⟨by rw [neL, if_neg c_23], rfl⟩
      · try simp only [b01_0, bz_0, Classical.not_not] at c_23
        refine rj_iinc (pc := 26) dX11_nameEnd_26 (Nat.le_of_ble_eq_true rfl) rfl ?_
        dsimp only [lsSt, List.set, mLs, mEnt]
        refine r_goto (pc := 29) (tgt := 2) dX11_nameEnd_29 (by decide) ?_
        have z := ih (k + 1) (by omega) (by omega)
        rw [show neL pool (n + 1) k = neL pool n (k + 1) by rw [neL, if_pos c_23]]
        exact z
set_option maxHeartbeats 4000000 in
set_option maxRecDepth 100000 in
theorem m_nameEnd {G : mG} {l : Launch} (d : Nat) {h : mH} {x s : Nat} {f4 f6 f8 f9 f10 f11 f12 f13 f14 f16 f18 : Int} {m kp was pool tape pln pap rwd rw : Nat → Int}(hB : isM h x (mFs x f4 f6 f8 f9 f10 f11 f12 f13 f14 f16 f18 s) m kp was pool tape pln pap rwd rw) (hPo : ∀ q, InR (pool q)) {p : Nat} (hp : p + 8 ≤ 12342) : RUNM G l (d + 1) mX11_nameEnd [.ref x, .int (J (p : Int))] h (fun v h' => v = some (.int (J (neL pool 7 p : Nat))) ∧ h' = h) := by
  refine RUNM.of (by decide +kernel) (Nat.le_of_ble_eq_true rfl) ?_
  refine r_iload_n (pc := 0) dX11_nameEnd_0 rfl ?_
  refine r_istore_n (pc := 1) dX11_nameEnd_1 (Nat.le_of_ble_eq_true rfl) ?_
  dsimp only [lsSt, List.set, mLs, mEnt]
  exact L_nameEnd d hB hPo hp 7 p (Nat.le_refl _) (by omega)
def naL (pool : Nat → Int) : Nat → Nat → Int → Int
  | 0, _, v => v
  | n + 1, k, v => if 48 ≤ pool k ∧ pool k ≤ 57 then naL pool n (k + 1) (10 * v + pool k - 48) else v
def stopsBy (pool : Nat → Int) : Nat → Nat → Prop
  | 0, k => ¬ (48 ≤ pool k ∧ pool k ≤ 57)
  | n + 1, k => (48 ≤ pool k ∧ pool k ≤ 57) → stopsBy pool n (k + 1)
def numAt (pool : Nat → Int) (n p : Nat) : Int := if pool p = 45 then -(naL pool (n + 1) (p + 1) 0) else naL pool (n + 1) p 0
set_option maxHeartbeats 4000000 in
set_option maxRecDepth 100000 in
theorem L_numberAt {G : mG} {l : Launch} (d : Nat) {h : mH} {x s : Nat} {f4 f6 f8 f9 f10 f11 f12 f13 f14 f16 f18 : Int} {m kp was pool tape pln pap rwd rw : Nat → Int}(hB : isM h x (mFs x f4 f6 f8 f9 f10 f11 f12 f13 f14 f16 f18 s) m kp was pool tape pln pap rwd rw) (hPo : ∀ q, InR (pool q)) {p : Nat} (hp : p < 12342) : ∀ (n k : Nat) (v : Int), stopsBy pool n k → k + n < 12342 → RUN G l (d + 1) mX11_numberAt 21 [some (.ref x), some (.int (J (p : Int))), some (.int (J (k : Int))), some (.int (J v))] [] h (fun u h' => u = some (.int (J (if pool p = 45 then -(naL pool (n + 1) k v) else naL pool (n + 1) k v))) ∧ h' = h) := by
  dsimp only [mFs] at hB
  intro n
  induction n with
  | zero =>
    intro k v hs hk
    unfold stopsBy at hs
    refine r_aload_n (pc := 21) dX11_numberAt_21 rfl (by first | rfl | exact isRefV_rf _) ?_
    refine rm_getf (pc := 22) dX11_numberAt_22 fX11_21 (by assumption) rfl ?_
    refine r_iload_n (pc := 25) dX11_numberAt_25 rfl ?_
    refine rj_iald (pc := 26) (j := k) dX11_numberAt_26 (by first | exact isM.g0 (by assumption) | exact isM.g3 (by assumption) | exact isM.g4 (by assumption) | exact isM.g8 (by assumption) | exact isM.g7 (by assumption) | exact isM.g6 (by assumption) | exact isM.g5 (by assumption) | exact isM.g1 (by assumption) | exact isM.g2 (by assumption)) (by first | assumption | exact b01_r | exact bz_r | omega | (constructor <;> omega) | exact hM _ | exact hPo _ | exact hTa _ | exact hRo _) (by first | assumption | exact b01_r | exact bz_r | omega | (constructor <;> omega) | exact hM _ | exact hPo _ | exact hTa _ | exact hRo _) (by first | assumption | exact b01_r | exact bz_r | omega | (constructor <;> omega) | exact hM _ | exact hPo _ | exact hTa _ | exact hRo _) (by omega) ?_
    refine rj_bipush (pc := 27) dX11_numberAt_27 (by decide +kernel) ?_
    refine rj_bipush (pc := 29) dX11_numberAt_29 (by decide +kernel) ?_
    refine r_callS3 (pc := 31) dX11_numberAt_31 qX11_isIn kX11_46 sX11_isIn (Nat.le_of_ble_eq_true rfl) (m_isIn d (hPo _) (by decide) (by decide)) (fun v_31 h_31 q_31 => ?_)
    obtain ⟨rfl, rfl⟩ := q_31
    refine rj_if_eq (pc := 34) (tgt := 58) dX11_numberAt_34 (by decide) (by first | assumption | exact b01_r | exact bz_r | omega | (constructor <;> omega) | exact hM _ | exact hPo _ | exact hTa _ | exact hRo _) (fun c_34 => ?_) (fun c_34 => ?_)
    · try simp only [b01_0, bz_0, Classical.not_not] at c_34
      refine r_aload_n (pc := 58) dX11_numberAt_58 rfl (by first | rfl | exact isRefV_rf _) ?_
      refine rm_getf (pc := 59) dX11_numberAt_59 fX11_21 (by assumption) rfl ?_
      refine r_iload_n (pc := 62) dX11_numberAt_62 rfl ?_
      refine rj_iald (pc := 63) (j := p) dX11_numberAt_63 (by first | exact isM.g0 (by assumption) | exact isM.g3 (by assumption) | exact isM.g4 (by assumption) | exact isM.g8 (by assumption) | exact isM.g7 (by assumption) | exact isM.g6 (by assumption) | exact isM.g5 (by assumption) | exact isM.g1 (by assumption) | exact isM.g2 (by assumption)) (by first | assumption | exact b01_r | exact bz_r | omega | (constructor <;> omega) | exact hM _ | exact hPo _ | exact hTa _ | exact hRo _) (by first | assumption | exact b01_r | exact bz_r | omega | (constructor <;> omega) | exact hM _ | exact hPo _ | exact hTa _ | exact hRo _) (by first | assumption | exact b01_r | exact bz_r | omega | (constructor <;> omega) | exact hM _ | exact hPo _ | exact hTa _ | exact hRo _) (by omega) ?_
      refine rj_bipush (pc := 64) dX11_numberAt_64 (by decide +kernel) ?_
      refine rj_icmp_ne (pc := 66) (tgt := 74) dX11_numberAt_66 (by decide) (by first | assumption | exact b01_r | exact bz_r | omega | (constructor <;> omega) | exact hM _ | exact hPo _ | exact hTa _ | exact hRo _) (by first | assumption | exact b01_r | exact bz_r | omega | (constructor <;> omega) | exact hM _ | exact hPo _ | exact hTa _ | exact hRo _) (fun c_66 => ?_) (fun c_66 => ?_)
      · refine r_iload_n (pc := 74) dX11_numberAt_74 rfl ?_
        refine r_ireturn (pc := 75) .int dX11_numberAt_75 rfl (by first | rfl | assumption) ?_
        have e : naL pool (0 + 1) k v = v := by rw [naL, if_neg c_34]
        rw [e]
        first
        | exact ⟨by rw [if_pos c_66], rfl⟩
        | exact ⟨by rw [if_neg c_66], rfl⟩
      · refine r_iload_n (pc := 69) dX11_numberAt_69 rfl ?_
        refine rj_ineg (pc := 70) dX11_numberAt_70 ?_
        refine r_goto (pc := 71) (tgt := 75) dX11_numberAt_71 (by decide) ?_
        refine r_ireturn (pc := 75) .int dX11_numberAt_75 rfl (by first | rfl | assumption) ?_
        have e : naL pool (0 + 1) k v = v := by rw [naL, if_neg c_34]
        rw [e]
        first
        | exact ⟨by rw [if_pos c_66], rfl⟩
        | exact ⟨by rw [if_neg c_66], rfl⟩
    · try simp only [b01_0, bz_0, Classical.not_not] at c_34
      refine rj_bipush (pc := 37) dX11_numberAt_37 (by decide +kernel) ?_
      refine r_iload_n (pc := 39) dX11_numberAt_39 rfl ?_
      refine rj_imul (pc := 40) dX11_numberAt_40 ?_
      refine r_aload_n (pc := 41) dX11_numberAt_41 rfl (by first | rfl | exact isRefV_rf _) ?_
      refine rm_getf (pc := 42) dX11_numberAt_42 fX11_21 (by assumption) rfl ?_
      refine r_iload_n (pc := 45) dX11_numberAt_45 rfl ?_
      refine rj_iald (pc := 46) (j := k) dX11_numberAt_46 (by first | exact isM.g0 (by assumption) | exact isM.g3 (by assumption) | exact isM.g4 (by assumption) | exact isM.g8 (by assumption) | exact isM.g7 (by assumption) | exact isM.g6 (by assumption) | exact isM.g5 (by assumption) | exact isM.g1 (by assumption) | exact isM.g2 (by assumption)) (by first | assumption | exact b01_r | exact bz_r | omega | (constructor <;> omega) | exact hM _ | exact hPo _ | exact hTa _ | exact hRo _) (by first | assumption | exact b01_r | exact bz_r | omega | (constructor <;> omega) | exact hM _ | exact hPo _ | exact hTa _ | exact hRo _) (by first | assumption | exact b01_r | exact bz_r | omega | (constructor <;> omega) | exact hM _ | exact hPo _ | exact hTa _ | exact hRo _) (by omega) ?_
      refine rj_iadd (pc := 47) dX11_numberAt_47 ?_
      refine rj_bipush (pc := 48) dX11_numberAt_48 (by decide +kernel) ?_
      refine rj_isub (pc := 50) dX11_numberAt_50 ?_
      refine r_istore_n (pc := 51) dX11_numberAt_51 (Nat.le_of_ble_eq_true rfl) ?_
      dsimp only [lsSt, List.set, mLs, mEnt]
      refine rj_iinc (pc := 52) dX11_numberAt_52 (Nat.le_of_ble_eq_true rfl) rfl ?_
      dsimp only [lsSt, List.set, mLs, mEnt]
      refine r_goto (pc := 55) (tgt := 21) dX11_numberAt_55 (by decide) ?_
      exact absurd c_34 hs
  | succ n ih =>
    intro k v hs hk
    unfold stopsBy at hs
    refine r_aload_n (pc := 21) dX11_numberAt_21 rfl (by first | rfl | exact isRefV_rf _) ?_
    refine rm_getf (pc := 22) dX11_numberAt_22 fX11_21 (by assumption) rfl ?_
    refine r_iload_n (pc := 25) dX11_numberAt_25 rfl ?_
    refine rj_iald (pc := 26) (j := k) dX11_numberAt_26 (by first | exact isM.g0 (by assumption) | exact isM.g3 (by assumption) | exact isM.g4 (by assumption) | exact isM.g8 (by assumption) | exact isM.g7 (by assumption) | exact isM.g6 (by assumption) | exact isM.g5 (by assumption) | exact isM.g1 (by assumption) | exact isM.g2 (by assumption)) (by first | assumption | exact b01_r | exact bz_r | omega | (constructor <;> omega) | exact hM _ | exact hPo _ | exact hTa _ | exact hRo _) (by first | assumption | exact b01_r | exact bz_r | omega | (constructor <;> omega) | exact hM _ | exact hPo _ | exact hTa _ | exact hRo _) (by first | assumption | exact b01_r | exact bz_r | omega | (constructor <;> omega) | exact hM _ | exact hPo _ | exact hTa _ | exact hRo _) (by omega) ?_
    refine rj_bipush (pc := 27) dX11_numberAt_27 (by decide +kernel) ?_
    refine rj_bipush (pc := 29) dX11_numberAt_29 (by decide +kernel) ?_
    refine r_callS3 (pc := 31) dX11_numberAt_31 qX11_isIn kX11_46 sX11_isIn (Nat.le_of_ble_eq_true rfl) (m_isIn d (hPo _) (by decide) (by decide)) (fun v_31 h_31 q_31 => ?_)
    obtain ⟨rfl, rfl⟩ := q_31
    refine rj_if_eq (pc := 34) (tgt := 58) dX11_numberAt_34 (by decide) (by first | assumption | exact b01_r | exact bz_r | omega | (constructor <;> omega) | exact hM _ | exact hPo _ | exact hTa _ | exact hRo _) (fun c_34 => ?_) (fun c_34 => ?_)
    · try simp only [b01_0, bz_0, Classical.not_not] at c_34
      refine r_aload_n (pc := 58) dX11_numberAt_58 rfl (by first | rfl | exact isRefV_rf _) ?_
      refine rm_getf (pc := 59) dX11_numberAt_59 fX11_21 (by assumption) rfl ?_
      refine r_iload_n (pc := 62) dX11_numberAt_62 rfl ?_
      refine rj_iald (pc := 63) (j := p) dX11_numberAt_63 (by first | exact isM.g0 (by assumption) | exact isM.g3 (by assumption) | exact isM.g4 (by assumption) | exact isM.g8 (by assumption) | exact isM.g7 (by assumption) | exact isM.g6 (by assumption) | exact isM.g5 (by assumption) | exact isM.g1 (by assumption) | exact isM.g2 (by assumption)) (by first | assumption | exact b01_r | exact bz_r | omega | (constructor <;> omega) | exact hM _ | exact hPo _ | exact hTa _ | exact hRo _) (by first | assumption | exact b01_r | exact bz_r | omega | (constructor <;> omega) | exact hM _ | exact hPo _ | exact hTa _ | exact hRo _) (by first | assumption | exact b01_r | exact bz_r | omega | (constructor <;> omega) | exact hM _ | exact hPo _ | exact hTa _ | exact hRo _) (by omega) ?_
      refine rj_bipush (pc := 64) dX11_numberAt_64 (by decide +kernel) ?_
      refine rj_icmp_ne (pc := 66) (tgt := 74) dX11_numberAt_66 (by decide) (by first | assumption | exact b01_r | exact bz_r | omega | (constructor <;> omega) | exact hM _ | exact hPo _ | exact hTa _ | exact hRo _) (by first | assumption | exact b01_r | exact bz_r | omega | (constructor <;> omega) | exact hM _ | exact hPo _ | exact hTa _ | exact hRo _) (fun c_66 => ?_) (fun c_66 => ?_)
      · refine r_iload_n (pc := 74) dX11_numberAt_74 rfl ?_
        refine r_ireturn (pc := 75) .int dX11_numberAt_75 rfl (by first | rfl | assumption) ?_
        have e : naL pool (n + 1 + 1) k v = v := by rw [naL, if_neg c_34]
        rw [e]
        first
        | exact ⟨by rw [if_pos c_66], rfl⟩
        | exact ⟨by rw [if_neg c_66], rfl⟩
      · refine r_iload_n (pc := 69) dX11_numberAt_69 rfl ?_
        refine rj_ineg (pc := 70) dX11_numberAt_70 ?_
        refine r_goto (pc := 71) (tgt := 75) dX11_numberAt_71 (by decide) ?_
        refine r_ireturn (pc := 75) .int dX11_numberAt_75 rfl (by first | rfl | assumption) ?_
        have e : naL pool (n + 1 + 1) k v = v := by rw [naL, if_neg c_34]
        rw [e]
        first
        | exact ⟨by rw [if_pos c_66], rfl⟩
        | exact ⟨by rw [if_neg c_66], rfl⟩
    · try simp only [b01_0, bz_0, Classical.not_not] at c_34
      refine rj_bipush (pc := 37) dX11_numberAt_37 (by decide +kernel) ?_
      refine r_iload_n (pc := 39) dX11_numberAt_39 rfl ?_
      refine rj_imul (pc := 40) dX11_numberAt_40 ?_
      refine r_aload_n (pc := 41) dX11_numberAt_41 rfl (by first | rfl | exact isRefV_rf _) ?_
      refine rm_getf (pc := 42) dX11_numberAt_42 fX11_21 (by assumption) rfl ?_
      refine r_iload_n (pc := 45) dX11_numberAt_45 rfl ?_
      refine rj_iald (pc := 46) (j := k) dX11_numberAt_46 (by first | exact isM.g0 (by assumption) | exact isM.g3 (by assumption) | exact isM.g4 (by assumption) | exact isM.g8 (by assumption) | exact isM.g7 (by assumption) | exact isM.g6 (by assumption) | exact isM.g5 (by assumption) | exact isM.g1 (by assumption) | exact isM.g2 (by assumption)) (by first | assumption | exact b01_r | exact bz_r | omega | (constructor <;> omega) | exact hM _ | exact hPo _ | exact hTa _ | exact hRo _) (by first | assumption | exact b01_r | exact bz_r | omega | (constructor <;> omega) | exact hM _ | exact hPo _ | exact hTa _ | exact hRo _) (by first | assumption | exact b01_r | exact bz_r | omega | (constructor <;> omega) | exact hM _ | exact hPo _ | exact hTa _ | exact hRo _) (by omega) ?_
      refine rj_iadd (pc := 47) dX11_numberAt_47 ?_
      refine rj_bipush (pc := 48) dX11_numberAt_48 (by decide +kernel) ?_
      refine rj_isub (pc := 50) dX11_numberAt_50 ?_
      refine r_istore_n (pc := 51) dX11_numberAt_51 (Nat.le_of_ble_eq_true rfl) ?_
      dsimp only [lsSt, List.set, mLs, mEnt]
      refine rj_iinc (pc := 52) dX11_numberAt_52 (Nat.le_of_ble_eq_true rfl) rfl ?_
      dsimp only [lsSt, List.set, mLs, mEnt]
      refine r_goto (pc := 55) (tgt := 21) dX11_numberAt_55 (by decide) ?_
      have z := ih (k + 1) (10 * v + pool k - 48) (hs c_34) (by omega)
      rw [show naL pool (n + 1 + 1) k v = naL pool (n + 1) (k + 1) (10 * v + pool k - 48) by rw [naL, if_pos c_34]]
      exact z
set_option maxHeartbeats 4000000 in
set_option maxRecDepth 100000 in
theorem m_numberAt {G : mG} {l : Launch} (d : Nat) {h : mH} {x s : Nat} {f4 f6 f8 f9 f10 f11 f12 f13 f14 f16 f18 : Int} {m kp was pool tape pln pap rwd rw : Nat → Int}(hB : isM h x (mFs x f4 f6 f8 f9 f10 f11 f12 f13 f14 f16 f18 s) m kp was pool tape pln pap rwd rw) (hPo : ∀ q, InR (pool q)) {p n : Nat} (hp : p + 1 + n < 12342) (hs : stopsBy pool n (if pool p = 45 then p + 1 else p)) : RUNM G l (d + 1) mX11_numberAt [.ref x, .int (J (p : Int))] h (fun v h' => v = some (.int (J (numAt pool n p))) ∧ h' = h) := by
  dsimp only [mFs] at hB
  refine RUNM.of (by decide +kernel) (Nat.le_of_ble_eq_true rfl) ?_
  refine r_aload_n (pc := 0) dX11_numberAt_0 rfl (by first | rfl | exact isRefV_rf _) ?_
  refine rm_getf (pc := 1) dX11_numberAt_1 fX11_21 (by assumption) rfl ?_
  refine r_iload_n (pc := 4) dX11_numberAt_4 rfl ?_
  refine rj_iald (pc := 5) (j := p) dX11_numberAt_5 (by first | exact isM.g0 (by assumption) | exact isM.g3 (by assumption) | exact isM.g4 (by assumption) | exact isM.g8 (by assumption) | exact isM.g7 (by assumption) | exact isM.g6 (by assumption) | exact isM.g5 (by assumption) | exact isM.g1 (by assumption) | exact isM.g2 (by assumption)) (by first | assumption | exact b01_r | exact bz_r | omega | (constructor <;> omega) | exact hM _ | exact hPo _ | exact hTa _ | exact hRo _) (by first | assumption | exact b01_r | exact bz_r | omega | (constructor <;> omega) | exact hM _ | exact hPo _ | exact hTa _ | exact hRo _) (by first | assumption | exact b01_r | exact bz_r | omega | (constructor <;> omega) | exact hM _ | exact hPo _ | exact hTa _ | exact hRo _) (by omega) ?_
  refine rj_bipush (pc := 6) dX11_numberAt_6 (by decide +kernel) ?_
  refine rj_icmp_ne (pc := 8) (tgt := 17) dX11_numberAt_8 (by decide) (by first | assumption | exact b01_r | exact bz_r | omega | (constructor <;> omega) | exact hM _ | exact hPo _ | exact hTa _ | exact hRo _) (by first | assumption | exact b01_r | exact bz_r | omega | (constructor <;> omega) | exact hM _ | exact hPo _ | exact hTa _ | exact hRo _) (fun c_8 => ?_) (fun c_8 => ?_)
  · refine r_iload_n (pc := 17) dX11_numberAt_17 rfl ?_
    refine r_istore_n (pc := 18) dX11_numberAt_18 (Nat.le_of_ble_eq_true rfl) ?_
    dsimp only [lsSt, List.set, mLs, mEnt]
    refine rj_iconst (pc := 19) dX11_numberAt_19 ?_
    refine r_istore_n (pc := 20) dX11_numberAt_20 (Nat.le_of_ble_eq_true rfl) ?_
    dsimp only [lsSt, List.set, mLs, mEnt]
    rw [if_neg c_8] at hs
    have z := L_numberAt (G := G) (l := l) d hB hPo (p := p) (by omega) n p 0 hs (by omega)
    rw [if_neg c_8] at z
    unfold numAt
    rw [if_neg c_8]
    exact z
  · refine r_iload_n (pc := 11) dX11_numberAt_11 rfl ?_
    refine rj_iconst (pc := 12) dX11_numberAt_12 ?_
    refine rj_iadd (pc := 13) dX11_numberAt_13 ?_
    refine r_goto (pc := 14) (tgt := 18) dX11_numberAt_14 (by decide) ?_
    refine r_istore_n (pc := 18) dX11_numberAt_18 (Nat.le_of_ble_eq_true rfl) ?_
    dsimp only [lsSt, List.set, mLs, mEnt]
    refine rj_iconst (pc := 19) dX11_numberAt_19 ?_
    refine r_istore_n (pc := 20) dX11_numberAt_20 (Nat.le_of_ble_eq_true rfl) ?_
    dsimp only [lsSt, List.set, mLs, mEnt]
    rw [if_pos c_8] at hs
    have z := L_numberAt (G := G) (l := l) d hB hPo (p := p) (by omega) n (p + 1) 0 hs (by omega)
    rw [if_pos c_8] at z
    unfold numAt
    rw [if_pos c_8]
    exact z
def brk (c : Int) : Int := if c = 123 then 1 else if c = 125 then -1 else 0
def behL (pool : Nat → Int) : Nat → Nat → Int → Nat
  | 0, p, _ => p
  | n + 1, p, w => if 0 < w ∨ ¬ pool p = 59 then behL pool n (p + 1) (w + brk (pool p)) else p
set_option maxHeartbeats 4000000 in
set_option maxRecDepth 100000 in
theorem L_behind {G : mG} {l : Launch} (d : Nat) {h : mH} {x s : Nat} {f4 f6 f8 f9 f10 f11 f12 f13 f14 f16 f18 : Int} {m kp was pool tape pln pap rwd rw : Nat → Int}(hB : isM h x (mFs x f4 f6 f8 f9 f10 f11 f12 f13 f14 f16 f18 s) m kp was pool tape pln pap rwd rw) (hPo : ∀ q, InR (pool q)) {a : Int} {E : Nat} (hE : E ≤ 12342) : ∀ (n p : Nat) (u : Int), p + n = E → -20000 ≤ u - n → u + n ≤ 20000 → RUN G l d mX11_behind 5 [some (.ref x), some (.int (J a)), some (.int (J (E : Int))), some (.int (J (p : Int))), some (.int (J u))] [] h (fun v h' => v = some (.int (J (behL pool n p u : Nat))) ∧ h' = h) := by
  dsimp only [mFs] at hB
  intro n
  induction n with
  | zero =>
    intro p u hp h1 h2
    refine r_iload_n (pc := 5) dX11_behind_5 rfl ?_
    refine r_iload_n (pc := 6) dX11_behind_6 rfl ?_
    refine rj_icmp_ge (pc := 7) (tgt := 68) dX11_behind_7 (by decide) (by first | assumption | exact b01_r | exact bz_r | omega | (constructor <;> omega) | exact hM _ | exact hPo _ | exact hTa _ | exact hRo _) (by first | assumption | exact b01_r | exact bz_r | omega | (constructor <;> omega) | exact hM _ | exact hPo _ | exact hTa _ | exact hRo _) (fun c_7 => ?_) (fun c_7 => ?_)
    · refine r_iload_n (pc := 68) dX11_behind_68 rfl ?_
      refine r_ireturn (pc := 69) .int dX11_behind_69 rfl (by first | rfl | assumption) ?_
      first
      | exact ⟨rfl, rfl⟩
      | (exfalso; omega)
    · refine r_iload (pc := 10) dX11_behind_10 rfl ?_
      refine rj_if_gt (pc := 12) (tgt := 26) dX11_behind_12 (by decide) (by first | assumption | exact b01_r | exact bz_r | omega | (constructor <;> omega) | exact hM _ | exact hPo _ | exact hTa _ | exact hRo _) (fun c_12 => ?_) (fun c_12 => ?_)
      · exfalso; omega
      · refine r_aload_n (pc := 15) dX11_behind_15 rfl (by first | rfl | exact isRefV_rf _) ?_
        refine rm_getf (pc := 16) dX11_behind_16 fX11_21 (by assumption) rfl ?_
        refine r_iload_n (pc := 19) dX11_behind_19 rfl ?_
        refine rj_iald (pc := 20) (j := p) dX11_behind_20 (by first | exact isM.g0 (by assumption) | exact isM.g3 (by assumption) | exact isM.g4 (by assumption) | exact isM.g8 (by assumption) | exact isM.g7 (by assumption) | exact isM.g6 (by assumption) | exact isM.g5 (by assumption) | exact isM.g1 (by assumption) | exact isM.g2 (by assumption)) (by first | assumption | exact b01_r | exact bz_r | omega | (constructor <;> omega) | exact hM _ | exact hPo _ | exact hTa _ | exact hRo _) (by first | assumption | exact b01_r | exact bz_r | omega | (constructor <;> omega) | exact hM _ | exact hPo _ | exact hTa _ | exact hRo _) (by first | assumption | exact b01_r | exact bz_r | omega | (constructor <;> omega) | exact hM _ | exact hPo _ | exact hTa _ | exact hRo _) (by omega) ?_
        refine rj_bipush (pc := 21) dX11_behind_21 (by decide +kernel) ?_
        refine rj_icmp_eq (pc := 23) (tgt := 68) dX11_behind_23 (by decide) (by first | assumption | exact b01_r | exact bz_r | omega | (constructor <;> omega) | exact hM _ | exact hPo _ | exact hTa _ | exact hRo _) (by first | assumption | exact b01_r | exact bz_r | omega | (constructor <;> omega) | exact hM _ | exact hPo _ | exact hTa _ | exact hRo _) (fun c_23 => ?_) (fun c_23 => ?_)
        · refine r_iload_n (pc := 68) dX11_behind_68 rfl ?_
          refine r_ireturn (pc := 69) .int dX11_behind_69 rfl (by first | rfl | assumption) ?_
          first
          | exact ⟨rfl, rfl⟩
          | (exfalso; omega)
        · exfalso; omega
  | succ n ih =>
    intro p u hp h1 h2
    refine r_iload_n (pc := 5) dX11_behind_5 rfl ?_
    refine r_iload_n (pc := 6) dX11_behind_6 rfl ?_
    refine rj_icmp_ge (pc := 7) (tgt := 68) dX11_behind_7 (by decide) (by first | assumption | exact b01_r | exact bz_r | omega | (constructor <;> omega) | exact hM _ | exact hPo _ | exact hTa _ | exact hRo _) (by first | assumption | exact b01_r | exact bz_r | omega | (constructor <;> omega) | exact hM _ | exact hPo _ | exact hTa _ | exact hRo _) (fun c_7 => ?_) (fun c_7 => ?_)
    · refine r_iload_n (pc := 68) dX11_behind_68 rfl ?_
      refine r_ireturn (pc := 69) .int dX11_behind_69 rfl (by first | rfl | assumption) ?_
      first
      | (exfalso; omega)
      | exact ⟨by rw [behL, if_neg (by omega)], rfl⟩
    · refine r_iload (pc := 10) dX11_behind_10 rfl ?_
      refine rj_if_gt (pc := 12) (tgt := 26) dX11_behind_12 (by decide) (by first | assumption | exact b01_r | exact bz_r | omega | (constructor <;> omega) | exact hM _ | exact hPo _ | exact hTa _ | exact hRo _) (fun c_12 => ?_) (fun c_12 => ?_)
      · refine r_iload (pc := 26) dX11_behind_26 rfl ?_
        refine r_aload_n (pc := 28) dX11_behind_28 rfl (by first | rfl | exact isRefV_rf _) ?_
        refine rm_getf (pc := 29) dX11_behind_29 fX11_21 (by assumption) rfl ?_
        refine r_iload_n (pc := 32) dX11_behind_32 rfl ?_
        refine rj_iald (pc := 33) (j := p) dX11_behind_33 (by first | exact isM.g0 (by assumption) | exact isM.g3 (by assumption) | exact isM.g4 (by assumption) | exact isM.g8 (by assumption) | exact isM.g7 (by assumption) | exact isM.g6 (by assumption) | exact isM.g5 (by assumption) | exact isM.g1 (by assumption) | exact isM.g2 (by assumption)) (by first | assumption | exact b01_r | exact bz_r | omega | (constructor <;> omega) | exact hM _ | exact hPo _ | exact hTa _ | exact hRo _) (by first | assumption | exact b01_r | exact bz_r | omega | (constructor <;> omega) | exact hM _ | exact hPo _ | exact hTa _ | exact hRo _) (by first | assumption | exact b01_r | exact bz_r | omega | (constructor <;> omega) | exact hM _ | exact hPo _ | exact hTa _ | exact hRo _) (by omega) ?_
        refine rj_bipush (pc := 34) dX11_behind_34 (by decide +kernel) ?_
        refine rj_icmp_ne (pc := 36) (tgt := 43) dX11_behind_36 (by decide) (by first | assumption | exact b01_r | exact bz_r | omega | (constructor <;> omega) | exact hM _ | exact hPo _ | exact hTa _ | exact hRo _) (by first | assumption | exact b01_r | exact bz_r | omega | (constructor <;> omega) | exact hM _ | exact hPo _ | exact hTa _ | exact hRo _) (fun c_36 => ?_) (fun c_36 => ?_)
        · refine r_aload_n (pc := 43) dX11_behind_43 rfl (by first | rfl | exact isRefV_rf _) ?_
          refine rm_getf (pc := 44) dX11_behind_44 fX11_21 (by assumption) rfl ?_
          refine r_iload_n (pc := 47) dX11_behind_47 rfl ?_
          refine rj_iald (pc := 48) (j := p) dX11_behind_48 (by first | exact isM.g0 (by assumption) | exact isM.g3 (by assumption) | exact isM.g4 (by assumption) | exact isM.g8 (by assumption) | exact isM.g7 (by assumption) | exact isM.g6 (by assumption) | exact isM.g5 (by assumption) | exact isM.g1 (by assumption) | exact isM.g2 (by assumption)) (by first | assumption | exact b01_r | exact bz_r | omega | (constructor <;> omega) | exact hM _ | exact hPo _ | exact hTa _ | exact hRo _) (by first | assumption | exact b01_r | exact bz_r | omega | (constructor <;> omega) | exact hM _ | exact hPo _ | exact hTa _ | exact hRo _) (by first | assumption | exact b01_r | exact bz_r | omega | (constructor <;> omega) | exact hM _ | exact hPo _ | exact hTa _ | exact hRo _) (by omega) ?_
          refine rj_bipush (pc := 49) dX11_behind_49 (by decide +kernel) ?_
          refine rj_icmp_ne (pc := 51) (tgt := 58) dX11_behind_51 (by decide) (by first | assumption | exact b01_r | exact bz_r | omega | (constructor <;> omega) | exact hM _ | exact hPo _ | exact hTa _ | exact hRo _) (by first | assumption | exact b01_r | exact bz_r | omega | (constructor <;> omega) | exact hM _ | exact hPo _ | exact hTa _ | exact hRo _) (fun c_51 => ?_) (fun c_51 => ?_)
          · refine rj_iconst (pc := 58) dX11_behind_58 ?_
            refine rj_iadd (pc := 59) dX11_behind_59 ?_
            refine r_istore (pc := 60) dX11_behind_60 (Nat.le_of_ble_eq_true rfl) ?_
            dsimp only [lsSt, List.set, mLs, mEnt]
            refine rj_iinc (pc := 62) dX11_behind_62 (Nat.le_of_ble_eq_true rfl) rfl ?_
            dsimp only [lsSt, List.set, mLs, mEnt]
            refine r_goto (pc := 65) (tgt := 5) dX11_behind_65 (by decide) ?_
            have eb : brk (pool p) = 0 := by unfold brk; rw [if_neg c_36, if_neg c_51]
            have z := ih (p + 1) (u + 0) (by omega) (by omega) (by omega)
            rw [show behL pool (n + 1) p u = behL pool n (p + 1) (u + 0) by rw [behL, if_pos (Or.inl c_12), eb]]
            exact z
          · refine rj_iconst (pc := 54) dX11_behind_54 ?_
            refine r_goto (pc := 55) (tgt := 59) dX11_behind_55 (by decide) ?_
            refine rj_iadd (pc := 59) dX11_behind_59 ?_
            refine r_istore (pc := 60) dX11_behind_60 (Nat.le_of_ble_eq_true rfl) ?_
            dsimp only [lsSt, List.set, mLs, mEnt]
            refine rj_iinc (pc := 62) dX11_behind_62 (Nat.le_of_ble_eq_true rfl) rfl ?_
            dsimp only [lsSt, List.set, mLs, mEnt]
            refine r_goto (pc := 65) (tgt := 5) dX11_behind_65 (by decide) ?_
            have eb : brk (pool p) = -1 := by unfold brk; rw [if_neg c_36, if_pos c_51]
            have z := ih (p + 1) (u + -1) (by omega) (by omega) (by omega)
            rw [show behL pool (n + 1) p u = behL pool n (p + 1) (u + -1) by rw [behL, if_pos (Or.inl c_12), eb]]
            exact z
        · refine rj_iconst (pc := 39) dX11_behind_39 ?_
          refine r_goto (pc := 40) (tgt := 59) dX11_behind_40 (by decide) ?_
          refine rj_iadd (pc := 59) dX11_behind_59 ?_
          refine r_istore (pc := 60) dX11_behind_60 (Nat.le_of_ble_eq_true rfl) ?_
          dsimp only [lsSt, List.set, mLs, mEnt]
          refine rj_iinc (pc := 62) dX11_behind_62 (Nat.le_of_ble_eq_true rfl) rfl ?_
          dsimp only [lsSt, List.set, mLs, mEnt]
          refine r_goto (pc := 65) (tgt := 5) dX11_behind_65 (by decide) ?_
          have eb : brk (pool p) = 1 := by unfold brk; rw [if_pos c_36]
          have z := ih (p + 1) (u + 1) (by omega) (by omega) (by omega)
          rw [show behL pool (n + 1) p u = behL pool n (p + 1) (u + 1) by rw [behL, if_pos (Or.inl c_12), eb]]
          exact z
      · refine r_aload_n (pc := 15) dX11_behind_15 rfl (by first | rfl | exact isRefV_rf _) ?_
        refine rm_getf (pc := 16) dX11_behind_16 fX11_21 (by assumption) rfl ?_
        refine r_iload_n (pc := 19) dX11_behind_19 rfl ?_
        refine rj_iald (pc := 20) (j := p) dX11_behind_20 (by first | exact isM.g0 (by assumption) | exact isM.g3 (by assumption) | exact isM.g4 (by assumption) | exact isM.g8 (by assumption) | exact isM.g7 (by assumption) | exact isM.g6 (by assumption) | exact isM.g5 (by assumption) | exact isM.g1 (by assumption) | exact isM.g2 (by assumption)) (by first | assumption | exact b01_r | exact bz_r | omega | (constructor <;> omega) | exact hM _ | exact hPo _ | exact hTa _ | exact hRo _) (by first | assumption | exact b01_r | exact bz_r | omega | (constructor <;> omega) | exact hM _ | exact hPo _ | exact hTa _ | exact hRo _) (by first | assumption | exact b01_r | exact bz_r | omega | (constructor <;> omega) | exact hM _ | exact hPo _ | exact hTa _ | exact hRo _) (by omega) ?_
        refine rj_bipush (pc := 21) dX11_behind_21 (by decide +kernel) ?_
        refine rj_icmp_eq (pc := 23) (tgt := 68) dX11_behind_23 (by decide) (by first | assumption | exact b01_r | exact bz_r | omega | (constructor <;> omega) | exact hM _ | exact hPo _ | exact hTa _ | exact hRo _) (by first | assumption | exact b01_r | exact bz_r | omega | (constructor <;> omega) | exact hM _ | exact hPo _ | exact hTa _ | exact hRo _) (fun c_23 => ?_) (fun c_23 => ?_)
        · refine r_iload_n (pc := 68) dX11_behind_68 rfl ?_
          refine r_ireturn (pc := 69) .int dX11_behind_69 rfl (by first | rfl | assumption) ?_
          first
          | (exfalso; omega)
          | exact ⟨by rw [behL, if_neg (by omega)], rfl⟩
        · refine r_iload (pc := 26) dX11_behind_26 rfl ?_
          refine r_aload_n (pc := 28) dX11_behind_28 rfl (by first | rfl | exact isRefV_rf _) ?_
          refine rm_getf (pc := 29) dX11_behind_29 fX11_21 (by assumption) rfl ?_
          refine r_iload_n (pc := 32) dX11_behind_32 rfl ?_
          refine rj_iald (pc := 33) (j := p) dX11_behind_33 (by first | exact isM.g0 (by assumption) | exact isM.g3 (by assumption) | exact isM.g4 (by assumption) | exact isM.g8 (by assumption) | exact isM.g7 (by assumption) | exact isM.g6 (by assumption) | exact isM.g5 (by assumption) | exact isM.g1 (by assumption) | exact isM.g2 (by assumption)) (by first | assumption | exact b01_r | exact bz_r | omega | (constructor <;> omega) | exact hM _ | exact hPo _ | exact hTa _ | exact hRo _) (by first | assumption | exact b01_r | exact bz_r | omega | (constructor <;> omega) | exact hM _ | exact hPo _ | exact hTa _ | exact hRo _) (by first | assumption | exact b01_r | exact bz_r | omega | (constructor <;> omega) | exact hM _ | exact hPo _ | exact hTa _ | exact hRo _) (by omega) ?_
          refine rj_bipush (pc := 34) dX11_behind_34 (by decide +kernel) ?_
          refine rj_icmp_ne (pc := 36) (tgt := 43) dX11_behind_36 (by decide) (by first | assumption | exact b01_r | exact bz_r | omega | (constructor <;> omega) | exact hM _ | exact hPo _ | exact hTa _ | exact hRo _) (by first | assumption | exact b01_r | exact bz_r | omega | (constructor <;> omega) | exact hM _ | exact hPo _ | exact hTa _ | exact hRo _) (fun c_36 => ?_) (fun c_36 => ?_)
          · refine r_aload_n (pc := 43) dX11_behind_43 rfl (by first | rfl | exact isRefV_rf _) ?_
            refine rm_getf (pc := 44) dX11_behind_44 fX11_21 (by assumption) rfl ?_
            refine r_iload_n (pc := 47) dX11_behind_47 rfl ?_
            refine rj_iald (pc := 48) (j := p) dX11_behind_48 (by first | exact isM.g0 (by assumption) | exact isM.g3 (by assumption) | exact isM.g4 (by assumption) | exact isM.g8 (by assumption) | exact isM.g7 (by assumption) | exact isM.g6 (by assumption) | exact isM.g5 (by assumption) | exact isM.g1 (by assumption) | exact isM.g2 (by assumption)) (by first | assumption | exact b01_r | exact bz_r | omega | (constructor <;> omega) | exact hM _ | exact hPo _ | exact hTa _ | exact hRo _) (by first | assumption | exact b01_r | exact bz_r | omega | (constructor <;> omega) | exact hM _ | exact hPo _ | exact hTa _ | exact hRo _) (by first | assumption | exact b01_r | exact bz_r | omega | (constructor <;> omega) | exact hM _ | exact hPo _ | exact hTa _ | exact hRo _) (by omega) ?_
            refine rj_bipush (pc := 49) dX11_behind_49 (by decide +kernel) ?_
            refine rj_icmp_ne (pc := 51) (tgt := 58) dX11_behind_51 (by decide) (by first | assumption | exact b01_r | exact bz_r | omega | (constructor <;> omega) | exact hM _ | exact hPo _ | exact hTa _ | exact hRo _) (by first | assumption | exact b01_r | exact bz_r | omega | (constructor <;> omega) | exact hM _ | exact hPo _ | exact hTa _ | exact hRo _) (fun c_51 => ?_) (fun c_51 => ?_)
            · refine rj_iconst (pc := 58) dX11_behind_58 ?_
              refine rj_iadd (pc := 59) dX11_behind_59 ?_
              refine r_istore (pc := 60) dX11_behind_60 (Nat.le_of_ble_eq_true rfl) ?_
              dsimp only [lsSt, List.set, mLs, mEnt]
              refine rj_iinc (pc := 62) dX11_behind_62 (Nat.le_of_ble_eq_true rfl) rfl ?_
              dsimp only [lsSt, List.set, mLs, mEnt]
              refine r_goto (pc := 65) (tgt := 5) dX11_behind_65 (by decide) ?_
              have eb : brk (pool p) = 0 := by unfold brk; rw [if_neg c_36, if_neg c_51]
              have z := ih (p + 1) (u + 0) (by omega) (by omega) (by omega)
              rw [show behL pool (n + 1) p u = behL pool n (p + 1) (u + 0) by rw [behL, if_pos (Or.inr c_23), eb]]
              exact z
            · refine rj_iconst (pc := 54) dX11_behind_54 ?_
              refine r_goto (pc := 55) (tgt := 59) dX11_behind_55 (by decide) ?_
              refine rj_iadd (pc := 59) dX11_behind_59 ?_
              refine r_istore (pc := 60) dX11_behind_60 (Nat.le_of_ble_eq_true rfl) ?_
              dsimp only [lsSt, List.set, mLs, mEnt]
              refine rj_iinc (pc := 62) dX11_behind_62 (Nat.le_of_ble_eq_true rfl) rfl ?_
              dsimp only [lsSt, List.set, mLs, mEnt]
              refine r_goto (pc := 65) (tgt := 5) dX11_behind_65 (by decide) ?_
              have eb : brk (pool p) = -1 := by unfold brk; rw [if_neg c_36, if_pos c_51]
              have z := ih (p + 1) (u + -1) (by omega) (by omega) (by omega)
              rw [show behL pool (n + 1) p u = behL pool n (p + 1) (u + -1) by rw [behL, if_pos (Or.inr c_23), eb]]
              exact z
          · refine rj_iconst (pc := 39) dX11_behind_39 ?_
            refine r_goto (pc := 40) (tgt := 59) dX11_behind_40 (by decide) ?_
            refine rj_iadd (pc := 59) dX11_behind_59 ?_
            refine r_istore (pc := 60) dX11_behind_60 (Nat.le_of_ble_eq_true rfl) ?_
            dsimp only [lsSt, List.set, mLs, mEnt]
            refine rj_iinc (pc := 62) dX11_behind_62 (Nat.le_of_ble_eq_true rfl) rfl ?_
            dsimp only [lsSt, List.set, mLs, mEnt]
            refine r_goto (pc := 65) (tgt := 5) dX11_behind_65 (by decide) ?_
            have eb : brk (pool p) = 1 := by unfold brk; rw [if_pos c_36]
            have z := ih (p + 1) (u + 1) (by omega) (by omega) (by omega)
            rw [show behL pool (n + 1) p u = behL pool n (p + 1) (u + 1) by rw [behL, if_pos (Or.inr c_23), eb]]
            exact z
set_option maxHeartbeats 4000000 in
set_option maxRecDepth 100000 in
theorem m_behind {G : mG} {l : Launch} (d : Nat) {h : mH} {x s : Nat} {f4 f6 f8 f9 f10 f11 f12 f13 f14 f16 f18 : Int} {m kp was pool tape pln pap rwd rw : Nat → Int}(hB : isM h x (mFs x f4 f6 f8 f9 f10 f11 f12 f13 f14 f16 f18 s) m kp was pool tape pln pap rwd rw) (hPo : ∀ q, InR (pool q)) {p E : Nat} (hp : p ≤ E) (hE : E ≤ 12342) : RUNM G l (d) mX11_behind [.ref x, .int (J (p : Int)), .int (J (E : Int))] h (fun v h' => v = some (.int (J (behL pool (E - p) p 0 : Nat))) ∧ h' = h) := by
  refine RUNM.of (by decide +kernel) (Nat.le_of_ble_eq_true rfl) ?_
  refine r_iload_n (pc := 0) dX11_behind_0 rfl ?_
  refine r_istore_n (pc := 1) dX11_behind_1 (Nat.le_of_ble_eq_true rfl) ?_
  dsimp only [lsSt, List.set, mLs, mEnt]
  refine rj_iconst (pc := 2) dX11_behind_2 ?_
  refine r_istore (pc := 3) dX11_behind_3 (Nat.le_of_ble_eq_true rfl) ?_
  dsimp only [lsSt, List.set, mLs, mEnt]
  exact L_behind d hB hPo hE (E - p) p 0 (by omega) (by omega) (by omega)
end mg_28
section mg_29
/-! ===== contracts of the reference: names ===== -/
def nmL (m rc : Nat → Int) (t fr : Nat) : Nat → Nat → Bool
  | 0, _ => true
  | n + 1, k => if m (265 + 14 * t + (k - fr)) = rc k then nmL m rc t fr n (k + 1) else false
def namedB (m rc : Nat → Int) (t fr to : Nat) : Bool := decide (m (261 + 14 * t) = (to : Int) - fr) && nmL m rc t fr (to - fr) fr
/-- the row of a name: the tape's or the pool's -/
def rowOk (rs : Nat) (rc pool tape : Nat → Int) (to : Nat) : Prop := (rs = 4 ∧ rc = tape ∧ to ≤ 120) ∨ (rs = 3 ∧ rc = pool ∧ to ≤ 12342)
theorem isM.row {h : mH} {x : Nat} {fs : List Value} {m kp was pool tape pln pap rwd rw : Nat → Int} (k : isM h x fs m kp was pool tape pln pap rwd rw) {rs : Nat} {rc : Nat → Int} {to : Nat} (hR : rowOk rs rc pool tape to) : ∃ sz : Nat, hGet h (mAd x rs) = some (.inr (.inl (sz, fun q => J (rc q)))) ∧ to ≤ sz := by
  rcases hR with ⟨rfl, rfl, g⟩ | ⟨rfl, rfl, g⟩
  · exact ⟨120, k.g4, g⟩
  · exact ⟨12342, k.g3, g⟩
set_option maxHeartbeats 4000000 in
set_option maxRecDepth 100000 in
theorem L_isNamed {G : mG} {l : Launch} (d : Nat) {h : mH} {x s : Nat} {f4 f6 f8 f9 f10 f11 f12 f13 f14 f16 f18 : Int} {m kp was pool tape pln pap rwd rw : Nat → Int}(hB : isM h x (mFs x f4 f6 f8 f9 f10 f11 f12 f13 f14 f16 f18 s) m kp was pool tape pln pap rwd rw) (hM : ∀ q, InR (m q)) {rs : Nat} {rc : Nat → Int} {fr to : Nat} (hR : rowOk rs rc pool tape to) (hft : fr ≤ to) (hRo : ∀ q, InR (rc q)) {t : Nat} (ht : t ≤ 89) (h7 : to - fr ≤ 7) : ∀ n k : Nat, fr ≤ k → k + n = to → RUN G l (d + 1) mX11_isNamed 23 [some (.ref x), some (.int (J (t : Int))), some (.ref (mAd x rs)), some (.int (J (fr : Int))), some (.int (J (to : Int))), some (.int (J (k : Int)))] [] h (fun v h' => v = some (.int (J (bz (nmL m rc t fr n k)))) ∧ h' = h) := by
  dsimp only [mFs] at hB
  have hto : to ≤ 12342 := by rcases hR with ⟨-, -, g⟩ | ⟨-, -, g⟩ <;> omega
  obtain ⟨sz, hrow, hsz⟩ := isM.row hB hR
  intro n
  induction n with
  | zero =>
    intro k hk hn
    refine r_iload (pc := 23) dX11_isNamed_23 rfl ?_
    refine r_iload (pc := 25) dX11_isNamed_25 rfl ?_
    refine rj_icmp_ge (pc := 27) (tgt := 60) dX11_isNamed_27 (by decide) (by first | assumption | exact b01_r | exact bz_r | omega | (constructor <;> omega) | exact hM _ | exact hPo _ | exact hTa _ | exact hRo _) (by first | assumption | exact b01_r | exact bz_r | omega | (constructor <;> omega) | exact hM _ | exact hPo _ | exact hTa _ | exact hRo _) (fun c_27 => ?_) (fun c_27 => ?_)
    · refine rj_iconst (pc := 60) dX11_isNamed_60 ?_
      refine r_ireturn (pc := 61) .boolean dX11_isNamed_61 rfl (by first | exact nar_J0 | exact nar_J1 | exact nar_b01 | exact nar_bz) ?_
      exact ⟨bzT, rfl⟩
    · exfalso; omega
  | succ n ih =>
    intro k hk hn
    refine r_iload (pc := 23) dX11_isNamed_23 rfl ?_
    refine r_iload (pc := 25) dX11_isNamed_25 rfl ?_
    refine rj_icmp_ge (pc := 27) (tgt := 60) dX11_isNamed_27 (by decide) (by first | assumption | exact b01_r | exact bz_r | omega | (constructor <;> omega) | exact hM _ | exact hPo _ | exact hTa _ | exact hRo _) (by first | assumption | exact b01_r | exact bz_r | omega | (constructor <;> omega) | exact hM _ | exact hPo _ | exact hTa _ | exact hRo _) (fun c_27 => ?_) (fun c_27 => ?_)
    · refine rj_iconst (pc := 60) dX11_isNamed_60 ?_
      refine r_ireturn (pc := 61) .boolean dX11_isNamed_61 rfl (by first | exact nar_J0 | exact nar_J1 | exact nar_b01 | exact nar_bz) ?_
      exfalso; omega
    · refine r_aload_n (pc := 30) dX11_isNamed_30 rfl (by first | rfl | exact isRefV_rf _) ?_
      refine rm_getf (pc := 31) dX11_isNamed_31 fX11_11 (by assumption) rfl ?_
      refine r_iload_n (pc := 34) dX11_isNamed_34 rfl ?_
      refine rj_bipush (pc := 35) dX11_isNamed_35 (by decide +kernel) ?_
      refine r_iload (pc := 37) dX11_isNamed_37 rfl ?_
      refine r_iload_n (pc := 39) dX11_isNamed_39 rfl ?_
      refine rj_isub (pc := 40) dX11_isNamed_40 ?_
      refine r_callS3 (pc := 41) dX11_isNamed_41 qX11_ofThing kX11_54 sX11_ofThing (Nat.le_of_ble_eq_true rfl) (m_ofThing d) (fun v_41 h_41 q_41 => ?_)
      obtain ⟨rfl, rfl⟩ := q_41
      refine rj_iald (pc := 44) (j := 265 + 14 * t + (k - fr)) dX11_isNamed_44 (by first | exact isM.g0 (by assumption) | exact isM.g3 (by assumption) | exact isM.g4 (by assumption) | exact isM.g8 (by assumption) | exact isM.g7 (by assumption) | exact isM.g6 (by assumption) | exact isM.g5 (by assumption) | exact isM.g1 (by assumption) | exact isM.g2 (by assumption)) (by first | assumption | exact b01_r | exact bz_r | omega | (constructor <;> omega) | exact hM _ | exact hPo _ | exact hTa _ | exact hRo _) (by first | assumption | exact b01_r | exact bz_r | omega | (constructor <;> omega) | exact hM _ | exact hPo _ | exact hTa _ | exact hRo _) (by first | assumption | exact b01_r | exact bz_r | omega | (constructor <;> omega) | exact hM _ | exact hPo _ | exact hTa _ | exact hRo _) (by omega) ?_
      refine r_aload_n (pc := 45) dX11_isNamed_45 rfl (by first | rfl | exact isRefV_rf _) ?_
      refine r_iload (pc := 46) dX11_isNamed_46 rfl ?_
      refine rj_iald (pc := 48) (j := k) dX11_isNamed_48 hrow (by constructor <;> omega) (by omega) (by omega) (by omega) ?_
      refine rj_icmp_eq (pc := 49) (tgt := 54) dX11_isNamed_49 (by decide) (by first | assumption | exact b01_r | exact bz_r | omega | (constructor <;> omega) | exact hM _ | exact hPo _ | exact hTa _ | exact hRo _) (by first | assumption | exact b01_r | exact bz_r | omega | (constructor <;> omega) | exact hM _ | exact hPo _ | exact hTa _ | exact hRo _) (fun c_49 => ?_) (fun c_49 => ?_)
      · refine rj_iinc (pc := 54) dX11_isNamed_54 (Nat.le_of_ble_eq_true rfl) rfl ?_
        dsimp only [lsSt, List.set, mLs, mEnt]
        refine r_goto (pc := 57) (tgt := 23) dX11_isNamed_57 (by decide) ?_
        have z := ih (k + 1) (by omega) (by omega)
        rw [nmL, if_pos c_49]
        exact z
      · refine rj_iconst (pc := 52) dX11_isNamed_52 ?_
        refine r_ireturn (pc := 53) .boolean dX11_isNamed_53 rfl (by first | exact nar_J0 | exact nar_J1 | exact nar_b01 | exact nar_bz) ?_
        exact ⟨by rw [nmL, if_neg c_49]; exact bzF, rfl⟩
set_option maxHeartbeats 4000000 in
set_option maxRecDepth 100000 in
theorem m_isNamed {G : mG} {l : Launch} (d : Nat) {h : mH} {x s : Nat} {f4 f6 f8 f9 f10 f11 f12 f13 f14 f16 f18 : Int} {m kp was pool tape pln pap rwd rw : Nat → Int}(hB : isM h x (mFs x f4 f6 f8 f9 f10 f11 f12 f13 f14 f16 f18 s) m kp was pool tape pln pap rwd rw) (hM : ∀ q, InR (m q)) {rs : Nat} {rc : Nat → Int} {fr to : Nat} (hR : rowOk rs rc pool tape to) (hft : fr ≤ to) (hRo : ∀ q, InR (rc q)) {t : Nat} (ht : t ≤ 89) (h7 : m (261 + 14 * t) ≤ 7) : RUNM G l (d + 1) mX11_isNamed [.ref x, .int (J (t : Int)), .ref (mAd x rs), .int (J (fr : Int)), .int (J (to : Int))] h (fun v h' => v = some (.int (J (bz (namedB m rc t fr to)))) ∧ h' = h) := by
  dsimp only [mFs] at hB
  refine RUNM.of (by decide +kernel) (Nat.le_of_ble_eq_true rfl) ?_
  have hto : to ≤ 12342 := by rcases hR with ⟨-, -, g⟩ | ⟨-, -, g⟩ <;> omega
  refine r_aload_n (pc := 0) dX11_isNamed_0 rfl (by first | rfl | exact isRefV_rf _) ?_
  refine rm_getf (pc := 1) dX11_isNamed_1 fX11_11 (by assumption) rfl ?_
  refine r_iload_n (pc := 4) dX11_isNamed_4 rfl ?_
  refine rj_iconst (pc := 5) dX11_isNamed_5 ?_
  refine rj_iconst (pc := 6) dX11_isNamed_6 ?_
  refine r_callS3 (pc := 7) dX11_isNamed_7 qX11_ofThing kX11_54 sX11_ofThing (Nat.le_of_ble_eq_true rfl) (m_ofThing d) (fun v_7 h_7 q_7 => ?_)
  obtain ⟨rfl, rfl⟩ := q_7
  refine rj_iald (pc := 10) (j := 261 + 14 * t) dX11_isNamed_10 (by first | exact isM.g0 (by assumption) | exact isM.g3 (by assumption) | exact isM.g4 (by assumption) | exact isM.g8 (by assumption) | exact isM.g7 (by assumption) | exact isM.g6 (by assumption) | exact isM.g5 (by assumption) | exact isM.g1 (by assumption) | exact isM.g2 (by assumption)) (by first | assumption | exact b01_r | exact bz_r | omega | (constructor <;> omega) | exact hM _ | exact hPo _ | exact hTa _ | exact hRo _) (by first | assumption | exact b01_r | exact bz_r | omega | (constructor <;> omega) | exact hM _ | exact hPo _ | exact hTa _ | exact hRo _) (by first | assumption | exact b01_r | exact bz_r | omega | (constructor <;> omega) | exact hM _ | exact hPo _ | exact hTa _ | exact hRo _) (by omega) ?_
  refine r_iload (pc := 11) dX11_isNamed_11 rfl ?_
  refine r_iload_n (pc := 13) dX11_isNamed_13 rfl ?_
  refine rj_isub (pc := 14) dX11_isNamed_14 ?_
  refine rj_icmp_eq (pc := 15) (tgt := 20) dX11_isNamed_15 (by decide) (by first | assumption | exact b01_r | exact bz_r | omega | (constructor <;> omega) | exact hM _ | exact hPo _ | exact hTa _ | exact hRo _) (by first | assumption | exact b01_r | exact bz_r | omega | (constructor <;> omega) | exact hM _ | exact hPo _ | exact hTa _ | exact hRo _) (fun c_15 => ?_) (fun c_15 => ?_)
  · refine r_iload_n (pc := 20) dX11_isNamed_20 rfl ?_
    refine r_istore (pc := 21) dX11_isNamed_21 (Nat.le_of_ble_eq_true rfl) ?_
    dsimp only [lsSt, List.set, mLs, mEnt]
    have z := L_isNamed (G := G) (l := l) d hB hM hR hft hRo ht (by omega) (to - fr) fr (Nat.le_refl _) (by omega)
    rw [show namedB m rc t fr to = nmL m rc t fr (to - fr) fr by unfold namedB; rw [decide_eq_true (by omega), Bool.true_and]]
    exact z
  · refine rj_iconst (pc := 18) dX11_isNamed_18 ?_
    refine r_ireturn (pc := 19) .boolean dX11_isNamed_19 rfl (by first | exact nar_J0 | exact nar_J1 | exact nar_b01 | exact nar_bz) ?_
    exact ⟨by unfold namedB; rw [decide_eq_false (by omega), Bool.false_and]; exact bzF, rfl⟩
/-- the first of n things from t on that is held and has the name; -5 -/
def hbL (m rc : Nat → Int) (fr to : Nat) : Nat → Nat → Int
  | 0, _ => -5
  | n + 1, t => if heldB m t = true ∧ namedB m rc t fr to = true then t else hbL m rc fr to n (t + 1)
set_option maxHeartbeats 4000000 in
set_option maxRecDepth 100000 in
theorem L_heldBy {G : mG} {l : Launch} (d : Nat) {h : mH} {x s : Nat} {f4 f6 f8 f9 f10 f11 f12 f13 f14 f16 f18 : Int} {m kp was pool tape pln pap rwd rw : Nat → Int}(hB : isM h x (mFs x f4 f6 f8 f9 f10 f11 f12 f13 f14 f16 f18 s) m kp was pool tape pln pap rwd rw) (hM : ∀ q, InR (m q)) {rs : Nat} {rc : Nat → Int} {fr to : Nat} (hR : rowOk rs rc pool tape to) (hft : fr ≤ to) (hRo : ∀ q, InR (rc q)) {N : Nat} (hN : m 1 = (N : Int)) (hcap : N ≤ 90) (h7 : ∀ t, t < N → m (261 + 14 * t) ≤ 7) : ∀ n t : Nat, t + n = N → RUN G l (d + 3) mX11_heldBy 3 [some (.ref x), some (.ref (mAd x rs)), some (.int (J (fr : Int))), some (.int (J (to : Int))), some (.int (J (t : Int)))] [] h (fun v h' => v = some (.int (J (hbL m rc fr to n t))) ∧ h' = h) := by
  dsimp only [mFs] at hB
  have r1 := hM 1
  intro n
  induction n with
  | zero =>
    intro t ht
    refine r_iload (pc := 3) dX11_heldBy_3 rfl ?_
    refine r_aload_n (pc := 5) dX11_heldBy_5 rfl (by first | rfl | exact isRefV_rf _) ?_
    refine rm_getf (pc := 6) dX11_heldBy_6 fX11_11 (by assumption) rfl ?_
    refine rj_iconst (pc := 9) dX11_heldBy_9 ?_
    refine rj_iald (pc := 10) (j := 1) dX11_heldBy_10 (by first | exact isM.g0 (by assumption) | exact isM.g3 (by assumption) | exact isM.g4 (by assumption) | exact isM.g8 (by assumption) | exact isM.g7 (by assumption) | exact isM.g6 (by assumption) | exact isM.g5 (by assumption) | exact isM.g1 (by assumption) | exact isM.g2 (by assumption)) (by first | assumption | exact b01_r | exact bz_r | omega | (constructor <;> omega) | exact hM _ | exact hPo _ | exact hTa _ | exact hRo _) (by first | assumption | exact b01_r | exact bz_r | omega | (constructor <;> omega) | exact hM _ | exact hPo _ | exact hTa _ | exact hRo _) (by first | assumption | exact b01_r | exact bz_r | omega | (constructor <;> omega) | exact hM _ | exact hPo _ | exact hTa _ | exact hRo _) rfl ?_
    refine rj_icmp_ge (pc := 11) (tgt := 44) dX11_heldBy_11 (by decide) (by first | assumption | exact b01_r | exact bz_r | omega | (constructor <;> omega) | exact hM _ | exact hPo _ | exact hTa _ | exact hRo _) (by first | assumption | exact b01_r | exact bz_r | omega | (constructor <;> omega) | exact hM _ | exact hPo _ | exact hTa _ | exact hRo _) (fun c_11 => ?_) (fun c_11 => ?_)
    · refine rj_bipush (pc := 44) dX11_heldBy_44 (by decide +kernel) ?_
      refine r_ireturn (pc := 46) .int dX11_heldBy_46 rfl (by first | rfl | assumption) ?_
      exact ⟨rfl, rfl⟩
    · exfalso; omega
  | succ n ih =>
    intro t ht
    refine r_iload (pc := 3) dX11_heldBy_3 rfl ?_
    refine r_aload_n (pc := 5) dX11_heldBy_5 rfl (by first | rfl | exact isRefV_rf _) ?_
    refine rm_getf (pc := 6) dX11_heldBy_6 fX11_11 (by assumption) rfl ?_
    refine rj_iconst (pc := 9) dX11_heldBy_9 ?_
    refine rj_iald (pc := 10) (j := 1) dX11_heldBy_10 (by first | exact isM.g0 (by assumption) | exact isM.g3 (by assumption) | exact isM.g4 (by assumption) | exact isM.g8 (by assumption) | exact isM.g7 (by assumption) | exact isM.g6 (by assumption) | exact isM.g5 (by assumption) | exact isM.g1 (by assumption) | exact isM.g2 (by assumption)) (by first | assumption | exact b01_r | exact bz_r | omega | (constructor <;> omega) | exact hM _ | exact hPo _ | exact hTa _ | exact hRo _) (by first | assumption | exact b01_r | exact bz_r | omega | (constructor <;> omega) | exact hM _ | exact hPo _ | exact hTa _ | exact hRo _) (by first | assumption | exact b01_r | exact bz_r | omega | (constructor <;> omega) | exact hM _ | exact hPo _ | exact hTa _ | exact hRo _) rfl ?_
    refine rj_icmp_ge (pc := 11) (tgt := 44) dX11_heldBy_11 (by decide) (by first | assumption | exact b01_r | exact bz_r | omega | (constructor <;> omega) | exact hM _ | exact hPo _ | exact hTa _ | exact hRo _) (by first | assumption | exact b01_r | exact bz_r | omega | (constructor <;> omega) | exact hM _ | exact hPo _ | exact hTa _ | exact hRo _) (fun c_11 => ?_) (fun c_11 => ?_)
    · refine rj_bipush (pc := 44) dX11_heldBy_44 (by decide +kernel) ?_
      refine r_ireturn (pc := 46) .int dX11_heldBy_46 rfl (by first | rfl | assumption) ?_
      exfalso; omega
    · refine r_aload_n (pc := 14) dX11_heldBy_14 rfl (by first | rfl | exact isRefV_rf _) ?_
      refine r_iload (pc := 15) dX11_heldBy_15 rfl ?_
      refine r_callV1 (pc := 17) dX11_heldBy_17 qX11_isHeld kX11_119 vX11_isHeld (by exact isM.gx (by assumption)) rfl rfl (Nat.le_of_ble_eq_true rfl) (m_isHeld (d + 1) hB hM (by omega) (by omega)) (fun v_17 h_17 q_17 => ?_)
      obtain ⟨rfl, rfl⟩ := q_17
      refine rj_if_eq (pc := 20) (tgt := 38) dX11_heldBy_20 (by decide) (by first | assumption | exact b01_r | exact bz_r | omega | (constructor <;> omega) | exact hM _ | exact hPo _ | exact hTa _ | exact hRo _) (fun c_20 => ?_) (fun c_20 => ?_)
      · try simp only [b01_0, bz_0, Classical.not_not] at c_20
        refine rj_iinc (pc := 38) dX11_heldBy_38 (Nat.le_of_ble_eq_true rfl) rfl ?_
        dsimp only [lsSt, List.set, mLs, mEnt]
        refine r_goto (pc := 41) (tgt := 3) dX11_heldBy_41 (by decide) ?_
        have z := ih (t + 1) (by omega)
        rw [hbL, if_neg (fun g => c_20 (by simpa [heldB, ← n_held] using g.1))]
        exact z
      · try simp only [b01_0, bz_0, Classical.not_not] at c_20
        refine r_aload_n (pc := 23) dX11_heldBy_23 rfl (by first | rfl | exact isRefV_rf _) ?_
        refine r_iload (pc := 24) dX11_heldBy_24 rfl ?_
        refine r_aload_n (pc := 26) dX11_heldBy_26 rfl (by first | rfl | exact isRefV_rf _) ?_
        refine r_iload_n (pc := 27) dX11_heldBy_27 rfl ?_
        refine r_iload_n (pc := 28) dX11_heldBy_28 rfl ?_
        refine r_callV4 (pc := 29) dX11_heldBy_29 qX11_isNamed kX11_122 vX11_isNamed (by exact isM.gx (by assumption)) rfl rfl (Nat.le_of_ble_eq_true rfl) (m_isNamed (d + 1) hB hM hR hft hRo (by omega) (h7 t (by omega))) (fun v_29 h_29 q_29 => ?_)
        obtain ⟨rfl, rfl⟩ := q_29
        refine rj_if_eq (pc := 32) (tgt := 38) dX11_heldBy_32 (by decide) (by first | assumption | exact b01_r | exact bz_r | omega | (constructor <;> omega) | exact hM _ | exact hPo _ | exact hTa _ | exact hRo _) (fun c_32 => ?_) (fun c_32 => ?_)
        · try simp only [b01_0, bz_0, Classical.not_not] at c_32
          refine rj_iinc (pc := 38) dX11_heldBy_38 (Nat.le_of_ble_eq_true rfl) rfl ?_
          dsimp only [lsSt, List.set, mLs, mEnt]
          refine r_goto (pc := 41) (tgt := 3) dX11_heldBy_41 (by decide) ?_
          have z := ih (t + 1) (by omega)
          rw [hbL, if_neg (fun g => c_32 g.2)]
          exact z
        · try simp only [b01_0, bz_0, Classical.not_not] at c_32
          refine r_iload (pc := 35) dX11_heldBy_35 rfl ?_
          refine r_ireturn (pc := 37) .int dX11_heldBy_37 rfl (by first | rfl | assumption) ?_
          exact ⟨by rw [hbL, if_pos ⟨by simpa [heldB, ← n_held] using c_20, c_32⟩], rfl⟩
set_option maxHeartbeats 4000000 in
set_option maxRecDepth 100000 in
theorem m_heldBy {G : mG} {l : Launch} (d : Nat) {h : mH} {x s : Nat} {f4 f6 f8 f9 f10 f11 f12 f13 f14 f16 f18 : Int} {m kp was pool tape pln pap rwd rw : Nat → Int}(hB : isM h x (mFs x f4 f6 f8 f9 f10 f11 f12 f13 f14 f16 f18 s) m kp was pool tape pln pap rwd rw) (hM : ∀ q, InR (m q)) {rs : Nat} {rc : Nat → Int} {fr to : Nat} (hR : rowOk rs rc pool tape to) (hft : fr ≤ to) (hRo : ∀ q, InR (rc q)) {N : Nat} (hN : m 1 = (N : Int)) (hcap : N ≤ 90) (h7 : ∀ t, t < N → m (261 + 14 * t) ≤ 7) : RUNM G l (d + 3) mX11_heldBy [.ref x, .ref (mAd x rs), .int (J (fr : Int)), .int (J (to : Int))] h (fun v h' => v = some (.int (J (hbL m rc fr to N 0))) ∧ h' = h) := by
  refine RUNM.of (by decide +kernel) (Nat.le_of_ble_eq_true rfl) ?_
  refine rj_iconst (pc := 0) dX11_heldBy_0 ?_
  refine r_istore (pc := 1) dX11_heldBy_1 (Nat.le_of_ble_eq_true rfl) ?_
  dsimp only [lsSt, List.set, mLs, mEnt]
  exact L_heldBy d hB hM hR hft hRo hN hcap h7 N 0 (by omega)
end mg_29
section mg_30
/-! ===== contracts of the reference: names written, things taken, faults gathered ===== -/
def nwL (rc : Nat → Int) (t fr : Nat) : Nat → Nat → (Nat → Int) → (Nat → Int)
  | 0, _, m => m
  | n + 1, k, m => nwL rc t fr n (k + 1) (updI m (265 + 14 * t + (k - fr)) (rc k))
def namesM (m rc : Nat → Int) (t fr to : Nat) : Nat → Int := nwL rc t fr (to - fr) fr (updI m (261 + 14 * t) ((to : Int) - fr))
set_option maxHeartbeats 4000000 in
set_option maxRecDepth 100000 in
theorem L_names {G : mG} {l : Launch} (d : Nat) {x s : Nat} {f4 f6 f8 f9 f10 f11 f12 f13 f14 f16 f18 : Int} {kp was pool tape pln pap rwd rw : Nat → Int} {rs : Nat} {rc : Nat → Int} {fr to : Nat} (hR : rowOk rs rc pool tape to) (hft : fr ≤ to) (h7 : to - fr ≤ 7) {t : Nat} (ht : t ≤ 89) : ∀ (n k : Nat) (m : Nat → Int) (h : mH), isM h x (mFs x f4 f6 f8 f9 f10 f11 f12 f13 f14 f16 f18 s) m kp was pool tape pln pap rwd rw → fr ≤ k → k + n = to → RUN G l (d + 1) mX11_names 18 [some (.ref x), some (.int (J (t : Int))), some (.ref (mAd x rs)), some (.int (J (fr : Int))), some (.int (J (to : Int))), some (.int (J (k : Int)))] [] h (fun v h' => v = none ∧ isM h' x (mFs x f4 f6 f8 f9 f10 f11 f12 f13 f14 f16 f18 s) (nwL rc t fr n k m) kp was pool tape pln pap rwd rw ∧ Same (mBlk x) h h') := by
  have hto : to ≤ 12342 := by rcases hR with ⟨-, -, g⟩ | ⟨-, -, g⟩ <;> omega
  intro n
  induction n with
  | zero =>
    intro k m h hB hk hn
    have hB0 := hB
    dsimp only [mFs] at hB
    refine r_iload (pc := 18) dX11_names_18 rfl ?_
    refine r_iload (pc := 20) dX11_names_20 rfl ?_
    refine rj_icmp_ge (pc := 22) (tgt := 50) dX11_names_22 (by decide) (by first | assumption | exact b01_r | exact bz_r | omega | (constructor <;> omega) | exact hM _ | exact hPo _ | exact hTa _ | exact hRo _) (by first | assumption | exact b01_r | exact bz_r | omega | (constructor <;> omega) | exact hM _ | exact hPo _ | exact hTa _ | exact hRo _) (fun c_22 => ?_) (fun c_22 => ?_)
    · refine r_return (pc := 50) dX11_names_50 rfl ?_
      exact ⟨rfl, hB0, Same.refl⟩
    · exfalso; omega
  | succ n ih =>
    intro k m h hB hk hn
    obtain ⟨sz, hrow, hsz⟩ := isM.row hB hR
    dsimp only [mFs] at hB
    refine r_iload (pc := 18) dX11_names_18 rfl ?_
    refine r_iload (pc := 20) dX11_names_20 rfl ?_
    refine rj_icmp_ge (pc := 22) (tgt := 50) dX11_names_22 (by decide) (by first | assumption | exact b01_r | exact bz_r | omega | (constructor <;> omega) | exact hM _ | exact hPo _ | exact hTa _ | exact hRo _) (by first | assumption | exact b01_r | exact bz_r | omega | (constructor <;> omega) | exact hM _ | exact hPo _ | exact hTa _ | exact hRo _) (fun c_22 => ?_) (fun c_22 => ?_)
    · refine r_return (pc := 50) dX11_names_50 rfl ?_
      exfalso; omega
    · refine r_aload_n (pc := 25) dX11_names_25 rfl (by first | rfl | exact isRefV_rf _) ?_
      refine rm_getf (pc := 26) dX11_names_26 fX11_11 (by assumption) rfl ?_
      refine r_iload_n (pc := 29) dX11_names_29 rfl ?_
      refine rj_bipush (pc := 30) dX11_names_30 (by decide +kernel) ?_
      refine r_iload (pc := 32) dX11_names_32 rfl ?_
      refine r_iload_n (pc := 34) dX11_names_34 rfl ?_
      refine rj_isub (pc := 35) dX11_names_35 ?_
      refine r_callS3 (pc := 36) dX11_names_36 qX11_ofThing kX11_54 sX11_ofThing (Nat.le_of_ble_eq_true rfl) (m_ofThing d) (fun v_36 h_36 q_36 => ?_)
      obtain ⟨rfl, rfl⟩ := q_36
      refine r_aload_n (pc := 39) dX11_names_39 rfl (by first | rfl | exact isRefV_rf _) ?_
      refine r_iload (pc := 40) dX11_names_40 rfl ?_
      refine rj_iald (pc := 42) (j := k) dX11_names_42 hrow (by constructor <;> omega) (by omega) (by omega) (by omega) ?_
      first | refine rm_iast0 (pc := 43) (j := 265 + 14 * t + (k - fr)) dX11_names_43 (by assumption) (by first | assumption | exact b01_r | exact bz_r | omega | (constructor <;> omega) | exact hM _ | exact hPo _ | exact hTa _ | exact hRo _) (by first | assumption | exact b01_r | exact bz_r | omega | (constructor <;> omega) | exact hM _ | exact hPo _ | exact hTa _ | exact hRo _) (by first | assumption | exact b01_r | exact bz_r | omega | (constructor <;> omega) | exact hM _ | exact hPo _ | exact hTa _ | exact hRo _) (by omega) (fun h_43 hB_43 hS_43 => ?_)
      refine rj_iinc (pc := 44) dX11_names_44 (Nat.le_of_ble_eq_true rfl) rfl ?_
      dsimp only [lsSt, List.set, mLs, mEnt]
      refine r_goto (pc := 47) (tgt := 18) dX11_names_47 (by decide) ?_
      have z := ih (k + 1) _ _ hB_43 (by omega) (by omega)
      exact z.mono (fun v h' g => ⟨g.1, g.2.1, hS_43.trans g.2.2⟩)
set_option maxHeartbeats 4000000 in
set_option maxRecDepth 100000 in
theorem m_names {G : mG} {l : Launch} (d : Nat) {h : mH} {x s : Nat} {f4 f6 f8 f9 f10 f11 f12 f13 f14 f16 f18 : Int} {m kp was pool tape pln pap rwd rw : Nat → Int}(hB : isM h x (mFs x f4 f6 f8 f9 f10 f11 f12 f13 f14 f16 f18 s) m kp was pool tape pln pap rwd rw) {rs : Nat} {rc : Nat → Int} {fr to : Nat} (hR : rowOk rs rc pool tape to) (hft : fr ≤ to) (h7 : to - fr ≤ 7) {t : Nat} (ht : t ≤ 89) : RUNM G l (d + 1) mX11_names [.ref x, .int (J (t : Int)), .ref (mAd x rs), .int (J (fr : Int)), .int (J (to : Int))] h (fun v h' => v = none ∧ isM h' x (mFs x f4 f6 f8 f9 f10 f11 f12 f13 f14 f16 f18 s) (namesM m rc t fr to) kp was pool tape pln pap rwd rw ∧ Same (mBlk x) h h') := by
  dsimp only [mFs] at hB
  refine RUNM.of (by decide +kernel) (Nat.le_of_ble_eq_true rfl) ?_
  have hto : to ≤ 12342 := by rcases hR with ⟨-, -, g⟩ | ⟨-, -, g⟩ <;> omega
  refine r_aload_n (pc := 0) dX11_names_0 rfl (by first | rfl | exact isRefV_rf _) ?_
  refine rm_getf (pc := 1) dX11_names_1 fX11_11 (by assumption) rfl ?_
  refine r_iload_n (pc := 4) dX11_names_4 rfl ?_
  refine rj_iconst (pc := 5) dX11_names_5 ?_
  refine rj_iconst (pc := 6) dX11_names_6 ?_
  refine r_callS3 (pc := 7) dX11_names_7 qX11_ofThing kX11_54 sX11_ofThing (Nat.le_of_ble_eq_true rfl) (m_ofThing d) (fun v_7 h_7 q_7 => ?_)
  obtain ⟨rfl, rfl⟩ := q_7
  refine r_iload (pc := 10) dX11_names_10 rfl ?_
  refine r_iload_n (pc := 12) dX11_names_12 rfl ?_
  refine rj_isub (pc := 13) dX11_names_13 ?_
  first | refine rm_iast0 (pc := 14) (j := 261 + 14 * t) dX11_names_14 (by assumption) (by first | assumption | exact b01_r | exact bz_r | omega | (constructor <;> omega) | exact hM _ | exact hPo _ | exact hTa _ | exact hRo _) (by first | assumption | exact b01_r | exact bz_r | omega | (constructor <;> omega) | exact hM _ | exact hPo _ | exact hTa _ | exact hRo _) (by first | assumption | exact b01_r | exact bz_r | omega | (constructor <;> omega) | exact hM _ | exact hPo _ | exact hTa _ | exact hRo _) (by omega) (fun h_14 hB_14 hS_14 => ?_)
  refine r_iload_n (pc := 15) dX11_names_15 rfl ?_
  refine r_istore (pc := 16) dX11_names_16 (Nat.le_of_ble_eq_true rfl) ?_
  dsimp only [lsSt, List.set, mLs, mEnt]
  have z := L_names (G := G) (l := l) d hR hft h7 ht (to - fr) fr _ _ hB_14 (Nat.le_refl _) (by omega)
  exact z.mono (fun v h' g => ⟨g.1, g.2.1, hS_14.trans g.2.2⟩)
def takesM (m rc : Nat → Int) (N : Nat) (o : Int) (fr to : Nat) (p e : Int) : Nat → Int :=
  updI (updI (updI (namesM (updI (updI (updI (updI (updI m 1 (N + 1)) (258 + 14 * N) 0) (259 + 14 * N) o) 6 (m 6 + 1)) (260 + 14 * N) (m 6 + 1)) rc N fr to) (262 + 14 * N) p) (263 + 14 * N) e) (264 + 14 * N) (-5)
set_option maxHeartbeats 4000000 in
set_option maxRecDepth 100000 in
theorem m_takes {G : mG} {l : Launch} (d : Nat) {h : mH} {x s : Nat} {f4 f6 f8 f9 f10 f11 f12 f13 f14 f16 f18 : Int} {m kp was pool tape pln pap rwd rw : Nat → Int}(hB : isM h x (mFs x f4 f6 f8 f9 f10 f11 f12 f13 f14 f16 f18 s) m kp was pool tape pln pap rwd rw) {rs : Nat} {rc : Nat → Int} {fr to : Nat} (hR : rowOk rs rc pool tape to) (hft : fr ≤ to) (h7 : to - fr ≤ 7) {N : Nat} (hN : m 1 = (N : Int)) (hcap : N ≤ 89) {o p e : Int} : RUNM G l (d + 2) mX11_takes [.ref x, .int (J o), .ref (mAd x rs), .int (J (fr : Int)), .int (J (to : Int)), .int (J p), .int (J e)] h (fun v h' => v = some (.int (J (N : Int))) ∧ isM h' x (mFs x f4 f6 f8 f9 f10 f11 f12 f13 f14 f16 f18 s) (takesM m rc N o fr to p e) kp was pool tape pln pap rwd rw ∧ Same (mBlk x) h h') := by
  dsimp only [mFs] at hB
  refine RUNM.of (by decide +kernel) (Nat.le_of_ble_eq_true rfl) ?_
  have r1 : InR (m 1) := ⟨by omega, by omega⟩
  refine r_aload_n (pc := 0) dX11_takes_0 rfl (by first | rfl | exact isRefV_rf _) ?_
  refine rm_getf (pc := 1) dX11_takes_1 fX11_11 (by assumption) rfl ?_
  refine rj_iconst (pc := 4) dX11_takes_4 ?_
  refine rj_iald (pc := 5) (j := 1) dX11_takes_5 (by first | exact isM.g0 (by assumption) | exact isM.g3 (by assumption) | exact isM.g4 (by assumption) | exact isM.g8 (by assumption) | exact isM.g7 (by assumption) | exact isM.g6 (by assumption) | exact isM.g5 (by assumption) | exact isM.g1 (by assumption) | exact isM.g2 (by assumption)) (by first | assumption | exact b01_r | exact bz_r | omega | (constructor <;> omega) | exact hM _ | exact hPo _ | exact hTa _ | exact hRo _) (by first | assumption | exact b01_r | exact bz_r | omega | (constructor <;> omega) | exact hM _ | exact hPo _ | exact hTa _ | exact hRo _) (by first | assumption | exact b01_r | exact bz_r | omega | (constructor <;> omega) | exact hM _ | exact hPo _ | exact hTa _ | exact hRo _) rfl ?_
  rw [hN]
  refine r_istore (pc := 6) dX11_takes_6 (Nat.le_of_ble_eq_true rfl) ?_
  dsimp only [lsSt, List.set, mLs, mEnt]
  refine r_aload_n (pc := 8) dX11_takes_8 rfl (by first | rfl | exact isRefV_rf _) ?_
  refine rm_getf (pc := 9) dX11_takes_9 fX11_11 (by assumption) rfl ?_
  refine rj_iconst (pc := 12) dX11_takes_12 ?_
  refine r_dup2 (pc := 13) dX11_takes_13 rfl rfl ?_
  refine rj_iald (pc := 14) (j := 1) dX11_takes_14 (by first | exact isM.g0 (by assumption) | exact isM.g3 (by assumption) | exact isM.g4 (by assumption) | exact isM.g8 (by assumption) | exact isM.g7 (by assumption) | exact isM.g6 (by assumption) | exact isM.g5 (by assumption) | exact isM.g1 (by assumption) | exact isM.g2 (by assumption)) (by first | assumption | exact b01_r | exact bz_r | omega | (constructor <;> omega) | exact hM _ | exact hPo _ | exact hTa _ | exact hRo _) (by first | assumption | exact b01_r | exact bz_r | omega | (constructor <;> omega) | exact hM _ | exact hPo _ | exact hTa _ | exact hRo _) (by first | assumption | exact b01_r | exact bz_r | omega | (constructor <;> omega) | exact hM _ | exact hPo _ | exact hTa _ | exact hRo _) rfl ?_
  refine rj_iconst (pc := 15) dX11_takes_15 ?_
  refine rj_iadd (pc := 16) dX11_takes_16 ?_
  rw [hN]
  first | refine rm_iast0 (pc := 17) (j := 1) dX11_takes_17 (by assumption) (by first | assumption | exact b01_r | exact bz_r | omega | (constructor <;> omega) | exact hM _ | exact hPo _ | exact hTa _ | exact hRo _) (by first | assumption | exact b01_r | exact bz_r | omega | (constructor <;> omega) | exact hM _ | exact hPo _ | exact hTa _ | exact hRo _) (by first | assumption | exact b01_r | exact bz_r | omega | (constructor <;> omega) | exact hM _ | exact hPo _ | exact hTa _ | exact hRo _) (by omega) (fun h_17 hB_17 hS_17 => ?_)
  refine r_aload_n (pc := 18) dX11_takes_18 rfl (by first | rfl | exact isRefV_rf _) ?_
  refine rm_getf (pc := 19) dX11_takes_19 fX11_11 (by assumption) rfl ?_
  refine r_iload (pc := 22) dX11_takes_22 rfl ?_
  refine rj_iconst (pc := 24) dX11_takes_24 ?_
  refine rj_iconst (pc := 25) dX11_takes_25 ?_
  refine r_callS3 (pc := 26) dX11_takes_26 qX11_ofThing kX11_54 sX11_ofThing (Nat.le_of_ble_eq_true rfl) (m_ofThing (d + 1)) (fun v_26 h_26 q_26 => ?_)
  obtain ⟨rfl, rfl⟩ := q_26
  refine rj_iconst (pc := 29) dX11_takes_29 ?_
  first | refine rm_iast0 (pc := 30) (j := 258 + 14 * N) dX11_takes_30 (by assumption) (by first | assumption | exact b01_r | exact bz_r | omega | (constructor <;> omega) | exact hM _ | exact hPo _ | exact hTa _ | exact hRo _) (by first | assumption | exact b01_r | exact bz_r | omega | (constructor <;> omega) | exact hM _ | exact hPo _ | exact hTa _ | exact hRo _) (by first | assumption | exact b01_r | exact bz_r | omega | (constructor <;> omega) | exact hM _ | exact hPo _ | exact hTa _ | exact hRo _) (by omega) (fun h_30 hB_30 hS_30 => ?_)
  refine r_aload_n (pc := 31) dX11_takes_31 rfl (by first | rfl | exact isRefV_rf _) ?_
  refine rm_getf (pc := 32) dX11_takes_32 fX11_11 (by assumption) rfl ?_
  refine r_iload (pc := 35) dX11_takes_35 rfl ?_
  refine rj_iconst (pc := 37) dX11_takes_37 ?_
  refine rj_iconst (pc := 38) dX11_takes_38 ?_
  refine r_callS3 (pc := 39) dX11_takes_39 qX11_ofThing kX11_54 sX11_ofThing (Nat.le_of_ble_eq_true rfl) (m_ofThing (d + 1)) (fun v_39 h_39 q_39 => ?_)
  obtain ⟨rfl, rfl⟩ := q_39
  refine r_iload_n (pc := 42) dX11_takes_42 rfl ?_
  first | refine rm_iast0 (pc := 43) (j := 259 + 14 * N) dX11_takes_43 (by assumption) (by first | assumption | exact b01_r | exact bz_r | omega | (constructor <;> omega) | exact hM _ | exact hPo _ | exact hTa _ | exact hRo _) (by first | assumption | exact b01_r | exact bz_r | omega | (constructor <;> omega) | exact hM _ | exact hPo _ | exact hTa _ | exact hRo _) (by first | assumption | exact b01_r | exact bz_r | omega | (constructor <;> omega) | exact hM _ | exact hPo _ | exact hTa _ | exact hRo _) (by omega) (fun h_43 hB_43 hS_43 => ?_)
  refine r_aload_n (pc := 44) dX11_takes_44 rfl (by first | rfl | exact isRefV_rf _) ?_
  refine rm_getf (pc := 45) dX11_takes_45 fX11_11 (by assumption) rfl ?_
  refine r_iload (pc := 48) dX11_takes_48 rfl ?_
  refine rj_iconst (pc := 50) dX11_takes_50 ?_
  refine rj_iconst (pc := 51) dX11_takes_51 ?_
  refine r_callS3 (pc := 52) dX11_takes_52 qX11_ofThing kX11_54 sX11_ofThing (Nat.le_of_ble_eq_true rfl) (m_ofThing (d + 1)) (fun v_52 h_52 q_52 => ?_)
  obtain ⟨rfl, rfl⟩ := q_52
  refine r_aload_n (pc := 55) dX11_takes_55 rfl (by first | rfl | exact isRefV_rf _) ?_
  refine r_callV0 (pc := 56) dX11_takes_56 qX11_stamp kX11_126 vX11_stamp (by exact isM.gx (by assumption)) rfl rfl (Nat.le_of_ble_eq_true rfl) (m_stamp (d + 1) hB_43) (fun v_56 h_56 q_56 => ?_)
  obtain ⟨rfl, hB_56, hS_56⟩ := q_56
  rw [updI_n (by omega), updI_n (by omega), updI_n (by omega)] at hB_56 ⊢
  first | refine rm_iast0 (pc := 59) (j := 260 + 14 * N) dX11_takes_59 (by assumption) (by first | assumption | exact b01_r | exact bz_r | omega | (constructor <;> omega) | exact hM _ | exact hPo _ | exact hTa _ | exact hRo _) (by first | assumption | exact b01_r | exact bz_r | omega | (constructor <;> omega) | exact hM _ | exact hPo _ | exact hTa _ | exact hRo _) (by first | assumption | exact b01_r | exact bz_r | omega | (constructor <;> omega) | exact hM _ | exact hPo _ | exact hTa _ | exact hRo _) (by omega) (fun h_59 hB_59 hS_59 => ?_)
  refine r_aload_n (pc := 60) dX11_takes_60 rfl (by first | rfl | exact isRefV_rf _) ?_
  refine r_iload (pc := 61) dX11_takes_61 rfl ?_
  refine r_aload_n (pc := 63) dX11_takes_63 rfl (by first | rfl | exact isRefV_rf _) ?_
  refine r_iload_n (pc := 64) dX11_takes_64 rfl ?_
  refine r_iload (pc := 65) dX11_takes_65 rfl ?_
  refine r_callV4 (pc := 67) dX11_takes_67 qX11_names kX11_129 vX11_names (by exact isM.gx (by assumption)) rfl rfl (Nat.le_of_ble_eq_true rfl) (m_names d hB_59 hR hft h7 (by omega)) (fun v_67 h_67 q_67 => ?_)
  obtain ⟨rfl, hB_67, hS_67⟩ := q_67
  refine r_aload_n (pc := 70) dX11_takes_70 rfl (by first | rfl | exact isRefV_rf _) ?_
  refine rm_getf (pc := 71) dX11_takes_71 fX11_11 (by assumption) rfl ?_
  refine r_iload (pc := 74) dX11_takes_74 rfl ?_
  refine rj_iconst (pc := 76) dX11_takes_76 ?_
  refine rj_iconst (pc := 77) dX11_takes_77 ?_
  refine r_callS3 (pc := 78) dX11_takes_78 qX11_ofThing kX11_54 sX11_ofThing (Nat.le_of_ble_eq_true rfl) (m_ofThing (d + 1)) (fun v_78 h_78 q_78 => ?_)
  obtain ⟨rfl, rfl⟩ := q_78
  refine r_iload (pc := 81) dX11_takes_81 rfl ?_
  first | refine rm_iast0 (pc := 83) (j := 262 + 14 * N) dX11_takes_83 (by assumption) (by first | assumption | exact b01_r | exact bz_r | omega | (constructor <;> omega) | exact hM _ | exact hPo _ | exact hTa _ | exact hRo _) (by first | assumption | exact b01_r | exact bz_r | omega | (constructor <;> omega) | exact hM _ | exact hPo _ | exact hTa _ | exact hRo _) (by first | assumption | exact b01_r | exact bz_r | omega | (constructor <;> omega) | exact hM _ | exact hPo _ | exact hTa _ | exact hRo _) (by omega) (fun h_83 hB_83 hS_83 => ?_)
  refine r_aload_n (pc := 84) dX11_takes_84 rfl (by first | rfl | exact isRefV_rf _) ?_
  refine rm_getf (pc := 85) dX11_takes_85 fX11_11 (by assumption) rfl ?_
  refine r_iload (pc := 88) dX11_takes_88 rfl ?_
  refine rj_iconst (pc := 90) dX11_takes_90 ?_
  refine rj_iconst (pc := 91) dX11_takes_91 ?_
  refine r_callS3 (pc := 92) dX11_takes_92 qX11_ofThing kX11_54 sX11_ofThing (Nat.le_of_ble_eq_true rfl) (m_ofThing (d + 1)) (fun v_92 h_92 q_92 => ?_)
  obtain ⟨rfl, rfl⟩ := q_92
  refine r_iload (pc := 95) dX11_takes_95 rfl ?_
  first | refine rm_iast0 (pc := 97) (j := 263 + 14 * N) dX11_takes_97 (by assumption) (by first | assumption | exact b01_r | exact bz_r | omega | (constructor <;> omega) | exact hM _ | exact hPo _ | exact hTa _ | exact hRo _) (by first | assumption | exact b01_r | exact bz_r | omega | (constructor <;> omega) | exact hM _ | exact hPo _ | exact hTa _ | exact hRo _) (by first | assumption | exact b01_r | exact bz_r | omega | (constructor <;> omega) | exact hM _ | exact hPo _ | exact hTa _ | exact hRo _) (by omega) (fun h_97 hB_97 hS_97 => ?_)
  refine r_aload_n (pc := 98) dX11_takes_98 rfl (by first | rfl | exact isRefV_rf _) ?_
  refine rm_getf (pc := 99) dX11_takes_99 fX11_11 (by assumption) rfl ?_
  refine r_iload (pc := 102) dX11_takes_102 rfl ?_
  refine rj_bipush (pc := 104) dX11_takes_104 (by decide +kernel) ?_
  refine rj_iconst (pc := 106) dX11_takes_106 ?_
  refine r_callS3 (pc := 107) dX11_takes_107 qX11_ofThing kX11_54 sX11_ofThing (Nat.le_of_ble_eq_true rfl) (m_ofThing (d + 1)) (fun v_107 h_107 q_107 => ?_)
  obtain ⟨rfl, rfl⟩ := q_107
  refine rj_bipush (pc := 110) dX11_takes_110 (by decide +kernel) ?_
  first | refine rm_iast0 (pc := 112) (j := 264 + 14 * N) dX11_takes_112 (by assumption) (by first | assumption | exact b01_r | exact bz_r | omega | (constructor <;> omega) | exact hM _ | exact hPo _ | exact hTa _ | exact hRo _) (by first | assumption | exact b01_r | exact bz_r | omega | (constructor <;> omega) | exact hM _ | exact hPo _ | exact hTa _ | exact hRo _) (by first | assumption | exact b01_r | exact bz_r | omega | (constructor <;> omega) | exact hM _ | exact hPo _ | exact hTa _ | exact hRo _) (by omega) (fun h_112 hB_112 hS_112 => ?_)
  refine r_iload (pc := 113) dX11_takes_113 rfl ?_
  refine r_ireturn (pc := 115) .int dX11_takes_115 rfl (by first | rfl | assumption) ?_
  exact ⟨rfl, hB_112, ((((((((hS_17.trans hS_30).trans hS_43).trans hS_56).trans hS_59).trans hS_67).trans hS_83).trans hS_97).trans hS_112)⟩
def gathersM (m : Nat → Int) (sink f t : Int) : Nat → Int :=
  if sink < 0 then updI (updI (updI m (2688 + 2 * m 5).toNat f) (2689 + 2 * m 5).toNat t) 5 (m 5 + 1)
  else updI (updI (updI (updI m (2328 + 3 * m 4).toNat sink) (2329 + 3 * m 4).toNat f) (2330 + 3 * m 4).toNat t) 4 (m 4 + 1)
set_option maxHeartbeats 4000000 in
set_option maxRecDepth 100000 in
theorem m_gathers {G : mG} {l : Launch} (d : Nat) {h : mH} {x s : Nat} {f4 f6 f8 f9 f10 f11 f12 f13 f14 f16 f18 : Int} {m kp was pool tape pln pap rwd rw : Nat → Int}(hB : isM h x (mFs x f4 f6 f8 f9 f10 f11 f12 f13 f14 f16 f18 s) m kp was pool tape pln pap rwd rw) {f t : Int} (hs : InR f14) (h5 : 0 ≤ m 5) (h5b : m 5 ≤ 119) (h4 : 0 ≤ m 4) (h4b : m 4 ≤ 119) : RUNM G l (d) mX11_gathers [.ref x, .int (J f), .int (J t)] h (fun v h' => v = none ∧ isM h' x (mFs x f4 f6 f8 f9 f10 f11 f12 f13 f14 f16 f18 s) (gathersM m f14 f t) kp was pool tape pln pap rwd rw ∧ Same (mBlk x) h h') := by
  dsimp only [mFs] at hB
  refine RUNM.of (by decide +kernel) (Nat.le_of_ble_eq_true rfl) ?_
  refine r_aload_n (pc := 0) dX11_gathers_0 rfl (by first | rfl | exact isRefV_rf _) ?_
  refine rm_getf (pc := 1) dX11_gathers_1 fX11_133 (by assumption) rfl ?_
  refine rj_if_ge (pc := 4) (tgt := 56) dX11_gathers_4 (by decide) (by first | assumption | exact b01_r | exact bz_r | omega | (constructor <;> omega) | exact hM _ | exact hPo _ | exact hTa _ | exact hRo _) (fun c_4 => ?_) (fun c_4 => ?_)
  · refine rj_sipush (pc := 56) dX11_gathers_56 (by decide +kernel) ?_
    refine rj_iconst (pc := 59) dX11_gathers_59 ?_
    refine r_aload_n (pc := 60) dX11_gathers_60 rfl (by first | rfl | exact isRefV_rf _) ?_
    refine rm_getf (pc := 61) dX11_gathers_61 fX11_11 (by assumption) rfl ?_
    refine rj_iconst (pc := 64) dX11_gathers_64 ?_
    refine rj_iald (pc := 65) (j := 4) dX11_gathers_65 (by first | exact isM.g0 (by assumption) | exact isM.g3 (by assumption) | exact isM.g4 (by assumption) | exact isM.g8 (by assumption) | exact isM.g7 (by assumption) | exact isM.g6 (by assumption) | exact isM.g5 (by assumption) | exact isM.g1 (by assumption) | exact isM.g2 (by assumption)) (by first | assumption | exact b01_r | exact bz_r | omega | (constructor <;> omega) | exact hM _ | exact hPo _ | exact hTa _ | exact hRo _) (by first | assumption | exact b01_r | exact bz_r | omega | (constructor <;> omega) | exact hM _ | exact hPo _ | exact hTa _ | exact hRo _) (by first | assumption | exact b01_r | exact bz_r | omega | (constructor <;> omega) | exact hM _ | exact hPo _ | exact hTa _ | exact hRo _) rfl ?_
    refine rj_imul (pc := 66) dX11_gathers_66 ?_
    refine rj_iadd (pc := 67) dX11_gathers_67 ?_
    refine r_istore_n (pc := 68) dX11_gathers_68 (Nat.le_of_ble_eq_true rfl) ?_
    dsimp only [lsSt, List.set, mLs, mEnt]
    refine r_aload_n (pc := 69) dX11_gathers_69 rfl (by first | rfl | exact isRefV_rf _) ?_
    refine rm_getf (pc := 70) dX11_gathers_70 fX11_11 (by assumption) rfl ?_
    refine r_iload_n (pc := 73) dX11_gathers_73 rfl ?_
    refine r_aload_n (pc := 74) dX11_gathers_74 rfl (by first | rfl | exact isRefV_rf _) ?_
    refine rm_getf (pc := 75) dX11_gathers_75 fX11_133 (by assumption) rfl ?_
    first | refine rm_iast0 (pc := 78) (j := (2328 + 3 * m 4).toNat) dX11_gathers_78 (by assumption) (by first | assumption | exact b01_r | exact bz_r | omega | (constructor <;> omega) | exact hM _ | exact hPo _ | exact hTa _ | exact hRo _) (by first | assumption | exact b01_r | exact bz_r | omega | (constructor <;> omega) | exact hM _ | exact hPo _ | exact hTa _ | exact hRo _) (by first | assumption | exact b01_r | exact bz_r | omega | (constructor <;> omega) | exact hM _ | exact hPo _ | exact hTa _ | exact hRo _) (by omega) (fun h_78 hB_78 hS_78 => ?_)
    refine r_aload_n (pc := 79) dX11_gathers_79 rfl (by first | rfl | exact isRefV_rf _) ?_
    refine rm_getf (pc := 80) dX11_gathers_80 fX11_11 (by assumption) rfl ?_
    refine r_iload_n (pc := 83) dX11_gathers_83 rfl ?_
    refine rj_iconst (pc := 84) dX11_gathers_84 ?_
    refine rj_iadd (pc := 85) dX11_gathers_85 ?_
    refine r_iload_n (pc := 86) dX11_gathers_86 rfl ?_
    first | refine rm_iast0 (pc := 87) (j := (2329 + 3 * m 4).toNat) dX11_gathers_87 (by assumption) (by first | assumption | exact b01_r | exact bz_r | omega | (constructor <;> omega) | exact hM _ | exact hPo _ | exact hTa _ | exact hRo _) (by first | assumption | exact b01_r | exact bz_r | omega | (constructor <;> omega) | exact hM _ | exact hPo _ | exact hTa _ | exact hRo _) (by first | assumption | exact b01_r | exact bz_r | omega | (constructor <;> omega) | exact hM _ | exact hPo _ | exact hTa _ | exact hRo _) (by omega) (fun h_87 hB_87 hS_87 => ?_)
    refine r_aload_n (pc := 88) dX11_gathers_88 rfl (by first | rfl | exact isRefV_rf _) ?_
    refine rm_getf (pc := 89) dX11_gathers_89 fX11_11 (by assumption) rfl ?_
    refine r_iload_n (pc := 92) dX11_gathers_92 rfl ?_
    refine rj_iconst (pc := 93) dX11_gathers_93 ?_
    refine rj_iadd (pc := 94) dX11_gathers_94 ?_
    refine r_iload_n (pc := 95) dX11_gathers_95 rfl ?_
    first | refine rm_iast0 (pc := 96) (j := (2330 + 3 * m 4).toNat) dX11_gathers_96 (by assumption) (by first | assumption | exact b01_r | exact bz_r | omega | (constructor <;> omega) | exact hM _ | exact hPo _ | exact hTa _ | exact hRo _) (by first | assumption | exact b01_r | exact bz_r | omega | (constructor <;> omega) | exact hM _ | exact hPo _ | exact hTa _ | exact hRo _) (by first | assumption | exact b01_r | exact bz_r | omega | (constructor <;> omega) | exact hM _ | exact hPo _ | exact hTa _ | exact hRo _) (by omega) (fun h_96 hB_96 hS_96 => ?_)
    refine r_aload_n (pc := 97) dX11_gathers_97 rfl (by first | rfl | exact isRefV_rf _) ?_
    refine rm_getf (pc := 98) dX11_gathers_98 fX11_11 (by assumption) rfl ?_
    refine rj_iconst (pc := 101) dX11_gathers_101 ?_
    refine r_dup2 (pc := 102) dX11_gathers_102 rfl rfl ?_
    refine rj_iald (pc := 103) (j := 4) dX11_gathers_103 (by first | exact isM.g0 (by assumption) | exact isM.g3 (by assumption) | exact isM.g4 (by assumption) | exact isM.g8 (by assumption) | exact isM.g7 (by assumption) | exact isM.g6 (by assumption) | exact isM.g5 (by assumption) | exact isM.g1 (by assumption) | exact isM.g2 (by assumption)) (by first | assumption | exact b01_r | exact bz_r | omega | (constructor <;> omega) | exact hM _ | exact hPo _ | exact hTa _ | exact hRo _) (by first | assumption | exact b01_r | exact bz_r | omega | (constructor <;> omega) | exact hM _ | exact hPo _ | exact hTa _ | exact hRo _) (by first | assumption | exact b01_r | exact bz_r | omega | (constructor <;> omega) | exact hM _ | exact hPo _ | exact hTa _ | exact hRo _) rfl ?_
    rw [updI_n (by omega), updI_n (by omega), updI_n (by omega)]
    refine rj_iconst (pc := 104) dX11_gathers_104 ?_
    refine rj_iadd (pc := 105) dX11_gathers_105 ?_
    first | refine rm_iast0 (pc := 106) (j := 4) dX11_gathers_106 (by assumption) (by first | assumption | exact b01_r | exact bz_r | omega | (constructor <;> omega) | exact hM _ | exact hPo _ | exact hTa _ | exact hRo _) (by first | assumption | exact b01_r | exact bz_r | omega | (constructor <;> omega) | exact hM _ | exact hPo _ | exact hTa _ | exact hRo _) (by first | assumption | exact b01_r | exact bz_r | omega | (constructor <;> omega) | exact hM _ | exact hPo _ | exact hTa _ | exact hRo _) (by omega) (fun h_106 hB_106 hS_106 => ?_)
    refine r_return (pc := 107) dX11_gathers_107 rfl ?_
    exact ⟨rfl, by unfold gathersM; rw [if_neg (by omega)]; exact hB_106, ((hS_78.trans hS_87).trans hS_96).trans hS_106⟩
  · refine r_aload_n (pc := 7) dX11_gathers_7 rfl (by first | rfl | exact isRefV_rf _) ?_
    refine rm_getf (pc := 8) dX11_gathers_8 fX11_11 (by assumption) rfl ?_
    refine rj_sipush (pc := 11) dX11_gathers_11 (by decide +kernel) ?_
    refine rj_iconst (pc := 14) dX11_gathers_14 ?_
    refine r_aload_n (pc := 15) dX11_gathers_15 rfl (by first | rfl | exact isRefV_rf _) ?_
    refine rm_getf (pc := 16) dX11_gathers_16 fX11_11 (by assumption) rfl ?_
    refine rj_iconst (pc := 19) dX11_gathers_19 ?_
    refine rj_iald (pc := 20) (j := 5) dX11_gathers_20 (by first | exact isM.g0 (by assumption) | exact isM.g3 (by assumption) | exact isM.g4 (by assumption) | exact isM.g8 (by assumption) | exact isM.g7 (by assumption) | exact isM.g6 (by assumption) | exact isM.g5 (by assumption) | exact isM.g1 (by assumption) | exact isM.g2 (by assumption)) (by first | assumption | exact b01_r | exact bz_r | omega | (constructor <;> omega) | exact hM _ | exact hPo _ | exact hTa _ | exact hRo _) (by first | assumption | exact b01_r | exact bz_r | omega | (constructor <;> omega) | exact hM _ | exact hPo _ | exact hTa _ | exact hRo _) (by first | assumption | exact b01_r | exact bz_r | omega | (constructor <;> omega) | exact hM _ | exact hPo _ | exact hTa _ | exact hRo _) rfl ?_
    refine rj_imul (pc := 21) dX11_gathers_21 ?_
    refine rj_iadd (pc := 22) dX11_gathers_22 ?_
    refine r_iload_n (pc := 23) dX11_gathers_23 rfl ?_
    first | refine rm_iast0 (pc := 24) (j := (2688 + 2 * m 5).toNat) dX11_gathers_24 (by assumption) (by first | assumption | exact b01_r | exact bz_r | omega | (constructor <;> omega) | exact hM _ | exact hPo _ | exact hTa _ | exact hRo _) (by first | assumption | exact b01_r | exact bz_r | omega | (constructor <;> omega) | exact hM _ | exact hPo _ | exact hTa _ | exact hRo _) (by first | assumption | exact b01_r | exact bz_r | omega | (constructor <;> omega) | exact hM _ | exact hPo _ | exact hTa _ | exact hRo _) (by omega) (fun h_24 hB_24 hS_24 => ?_)
    refine r_aload_n (pc := 25) dX11_gathers_25 rfl (by first | rfl | exact isRefV_rf _) ?_
    refine rm_getf (pc := 26) dX11_gathers_26 fX11_11 (by assumption) rfl ?_
    refine rj_sipush (pc := 29) dX11_gathers_29 (by decide +kernel) ?_
    refine rj_iconst (pc := 32) dX11_gathers_32 ?_
    refine r_aload_n (pc := 33) dX11_gathers_33 rfl (by first | rfl | exact isRefV_rf _) ?_
    refine rm_getf (pc := 34) dX11_gathers_34 fX11_11 (by assumption) rfl ?_
    refine rj_iconst (pc := 37) dX11_gathers_37 ?_
    refine rj_iald (pc := 38) (j := 5) dX11_gathers_38 (by first | exact isM.g0 (by assumption) | exact isM.g3 (by assumption) | exact isM.g4 (by assumption) | exact isM.g8 (by assumption) | exact isM.g7 (by assumption) | exact isM.g6 (by assumption) | exact isM.g5 (by assumption) | exact isM.g1 (by assumption) | exact isM.g2 (by assumption)) (by first | assumption | exact b01_r | exact bz_r | omega | (constructor <;> omega) | exact hM _ | exact hPo _ | exact hTa _ | exact hRo _) (by first | assumption | exact b01_r | exact bz_r | omega | (constructor <;> omega) | exact hM _ | exact hPo _ | exact hTa _ | exact hRo _) (by first | assumption | exact b01_r | exact bz_r | omega | (constructor <;> omega) | exact hM _ | exact hPo _ | exact hTa _ | exact hRo _) rfl ?_
    refine rj_imul (pc := 39) dX11_gathers_39 ?_
    refine rj_iadd (pc := 40) dX11_gathers_40 ?_
    rw [updI_n (by omega)]
    refine rj_iconst (pc := 41) dX11_gathers_41 ?_
    refine rj_iadd (pc := 42) dX11_gathers_42 ?_
    refine r_iload_n (pc := 43) dX11_gathers_43 rfl ?_
    first | refine rm_iast0 (pc := 44) (j := (2689 + 2 * m 5).toNat) dX11_gathers_44 (by assumption) (by first | assumption | exact b01_r | exact bz_r | omega | (constructor <;> omega) | exact hM _ | exact hPo _ | exact hTa _ | exact hRo _) (by first | assumption | exact b01_r | exact bz_r | omega | (constructor <;> omega) | exact hM _ | exact hPo _ | exact hTa _ | exact hRo _) (by first | assumption | exact b01_r | exact bz_r | omega | (constructor <;> omega) | exact hM _ | exact hPo _ | exact hTa _ | exact hRo _) (by omega) (fun h_44 hB_44 hS_44 => ?_)
    refine r_aload_n (pc := 45) dX11_gathers_45 rfl (by first | rfl | exact isRefV_rf _) ?_
    refine rm_getf (pc := 46) dX11_gathers_46 fX11_11 (by assumption) rfl ?_
    refine rj_iconst (pc := 49) dX11_gathers_49 ?_
    refine r_dup2 (pc := 50) dX11_gathers_50 rfl rfl ?_
    refine rj_iald (pc := 51) (j := 5) dX11_gathers_51 (by first | exact isM.g0 (by assumption) | exact isM.g3 (by assumption) | exact isM.g4 (by assumption) | exact isM.g8 (by assumption) | exact isM.g7 (by assumption) | exact isM.g6 (by assumption) | exact isM.g5 (by assumption) | exact isM.g1 (by assumption) | exact isM.g2 (by assumption)) (by first | assumption | exact b01_r | exact bz_r | omega | (constructor <;> omega) | exact hM _ | exact hPo _ | exact hTa _ | exact hRo _) (by first | assumption | exact b01_r | exact bz_r | omega | (constructor <;> omega) | exact hM _ | exact hPo _ | exact hTa _ | exact hRo _) (by first | assumption | exact b01_r | exact bz_r | omega | (constructor <;> omega) | exact hM _ | exact hPo _ | exact hTa _ | exact hRo _) rfl ?_
    rw [updI_n (by omega), updI_n (by omega)]
    refine rj_iconst (pc := 52) dX11_gathers_52 ?_
    refine rj_iadd (pc := 53) dX11_gathers_53 ?_
    first | refine rm_iast0 (pc := 54) (j := 5) dX11_gathers_54 (by assumption) (by first | assumption | exact b01_r | exact bz_r | omega | (constructor <;> omega) | exact hM _ | exact hPo _ | exact hTa _ | exact hRo _) (by first | assumption | exact b01_r | exact bz_r | omega | (constructor <;> omega) | exact hM _ | exact hPo _ | exact hTa _ | exact hRo _) (by first | assumption | exact b01_r | exact bz_r | omega | (constructor <;> omega) | exact hM _ | exact hPo _ | exact hTa _ | exact hRo _) (by omega) (fun h_54 hB_54 hS_54 => ?_)
    refine r_return (pc := 55) dX11_gathers_55 rfl ?_
    exact ⟨rfl, by unfold gathersM; rw [if_pos (by omega)]; exact hB_54, (hS_24.trans hS_44).trans hS_54⟩
end mg_30
section mg_31
/-! ===== contracts of the reference: the last entry, the next task, copies ===== -/
def loT (m : Nat → Int) (s : Int) : Nat → Nat → Int × Int → Int × Int
  | 0, _, r => r
  | n + 1, t, r => loT m s n (t + 1) (if heldB m t = true ∧ m (259 + 14 * t) = s ∧ r.2 ≤ m (260 + 14 * t) then ((t : Int), m (260 + 14 * t)) else r)
def loS (m : Nat → Int) (s : Int) : Nat → Nat → Int × Int → Int × Int
  | 0, _, r => r
  | n + 1, c, r => loS m s n (c + 1) (if openB m c = true ∧ m (19 + 4 * c) = s ∧ r.2 ≤ m (20 + 4 * c) then (100 + (c : Int), m (20 + 4 * c)) else r)
/-- the last entry of a scope that is held or open (100 and a scope's number); -5 -/
def lastM (m : Nat → Int) (s : Int) (N C : Nat) : Int := (loS m s (C - 1) 1 (loT m s N 0 (-5, -1))).1
set_option maxHeartbeats 4000000 in
set_option maxRecDepth 100000 in
theorem L_lastS {G : mG} {l : Launch} (d : Nat) {h : mH} {x s : Nat} {f4 f6 f8 f9 f10 f11 f12 f13 f14 f16 f18 : Int} {m kp was pool tape pln pap rwd rw : Nat → Int}(hB : isM h x (mFs x f4 f6 f8 f9 f10 f11 f12 f13 f14 f16 f18 s) m kp was pool tape pln pap rwd rw) (hM : ∀ q, InR (m q)) {N C : Nat} (hN : m 1 = (N : Int)) (hcap : N ≤ 90) (hC : m 0 = (C : Int)) (hC1 : 1 ≤ C) (hC2 : C ≤ 60) {a : Int} (ha : InR a) : ∀ (n t : Nat) (r : Int × Int), t + n = C → InR r.2 → RUN G l (d + 3) mX11_lastOf 88 [some (.ref x), some (.int (J a)), some (.int (J r.1)), some (.int (J r.2)), some (.int (J (t : Int)))] [] h (fun v h' => v = some (.int (J (loS m a n t r).1)) ∧ h' = h) := by
  dsimp only [mFs] at hB
  have r0 := hM 0
  intro n
  induction n with
  | zero =>
    intro t r ht hr
    refine r_iload (pc := 88) dX11_lastOf_88 rfl ?_
    refine r_aload_n (pc := 90) dX11_lastOf_90 rfl (by first | rfl | exact isRefV_rf _) ?_
    refine rm_getf (pc := 91) dX11_lastOf_91 fX11_11 (by assumption) rfl ?_
    refine rj_iconst (pc := 94) dX11_lastOf_94 ?_
    refine rj_iald (pc := 95) (j := 0) dX11_lastOf_95 (by first | exact isM.g0 (by assumption) | exact isM.g3 (by assumption) | exact isM.g4 (by assumption) | exact isM.g8 (by assumption) | exact isM.g7 (by assumption) | exact isM.g6 (by assumption) | exact isM.g5 (by assumption) | exact isM.g1 (by assumption) | exact isM.g2 (by assumption)) (by first | assumption | exact b01_r | exact bz_r | omega | (constructor <;> omega) | exact hM _ | exact hPo _ | exact hTa _ | exact hRo _) (by first | assumption | exact b01_r | exact bz_r | omega | (constructor <;> omega) | exact hM _ | exact hPo _ | exact hTa _ | exact hRo _) (by first | assumption | exact b01_r | exact bz_r | omega | (constructor <;> omega) | exact hM _ | exact hPo _ | exact hTa _ | exact hRo _) rfl ?_
    refine rj_icmp_ge (pc := 96) (tgt := 165) dX11_lastOf_96 (by decide) (by first | assumption | exact b01_r | exact bz_r | omega | (constructor <;> omega) | exact hM _ | exact hPo _ | exact hTa _ | exact hRo _) (by first | assumption | exact b01_r | exact bz_r | omega | (constructor <;> omega) | exact hM _ | exact hPo _ | exact hTa _ | exact hRo _) (fun c_96 => ?_) (fun c_96 => ?_)
    · refine r_iload_n (pc := 165) dX11_lastOf_165 rfl ?_
      refine r_ireturn (pc := 166) .int dX11_lastOf_166 rfl (by first | rfl | assumption) ?_
      exact ⟨rfl, rfl⟩
    · exfalso; omega
  | succ n ih =>
    intro t r ht hr
    have r2 := hM (20 + 4 * t)
    refine r_iload (pc := 88) dX11_lastOf_88 rfl ?_
    refine r_aload_n (pc := 90) dX11_lastOf_90 rfl (by first | rfl | exact isRefV_rf _) ?_
    refine rm_getf (pc := 91) dX11_lastOf_91 fX11_11 (by assumption) rfl ?_
    refine rj_iconst (pc := 94) dX11_lastOf_94 ?_
    refine rj_iald (pc := 95) (j := 0) dX11_lastOf_95 (by first | exact isM.g0 (by assumption) | exact isM.g3 (by assumption) | exact isM.g4 (by assumption) | exact isM.g8 (by assumption) | exact isM.g7 (by assumption) | exact isM.g6 (by assumption) | exact isM.g5 (by assumption) | exact isM.g1 (by assumption) | exact isM.g2 (by assumption)) (by first | assumption | exact b01_r | exact bz_r | omega | (constructor <;> omega) | exact hM _ | exact hPo _ | exact hTa _ | exact hRo _) (by first | assumption | exact b01_r | exact bz_r | omega | (constructor <;> omega) | exact hM _ | exact hPo _ | exact hTa _ | exact hRo _) (by first | assumption | exact b01_r | exact bz_r | omega | (constructor <;> omega) | exact hM _ | exact hPo _ | exact hTa _ | exact hRo _) rfl ?_
    refine rj_icmp_ge (pc := 96) (tgt := 165) dX11_lastOf_96 (by decide) (by first | assumption | exact b01_r | exact bz_r | omega | (constructor <;> omega) | exact hM _ | exact hPo _ | exact hTa _ | exact hRo _) (by first | assumption | exact b01_r | exact bz_r | omega | (constructor <;> omega) | exact hM _ | exact hPo _ | exact hTa _ | exact hRo _) (fun c_96 => ?_) (fun c_96 => ?_)
    · refine r_iload_n (pc := 165) dX11_lastOf_165 rfl ?_
      refine r_ireturn (pc := 166) .int dX11_lastOf_166 rfl (by first | rfl | assumption) ?_
      exfalso; omega
    · refine r_aload_n (pc := 99) dX11_lastOf_99 rfl (by first | rfl | exact isRefV_rf _) ?_
      refine r_iload (pc := 100) dX11_lastOf_100 rfl ?_
      refine r_callV1 (pc := 102) dX11_lastOf_102 qX11_isOpen kX11_146 vX11_isOpen (by exact isM.gx (by assumption)) rfl rfl (Nat.le_of_ble_eq_true rfl) (m_isOpen d hB hM ⟨by omega, by omega⟩ ⟨by omega, by omega⟩) (fun v_102 h_102 q_102 => ?_)
      obtain ⟨rfl, rfl⟩ := q_102
      refine rj_if_eq (pc := 105) (tgt := 159) dX11_lastOf_105 (by decide) (by first | assumption | exact b01_r | exact bz_r | omega | (constructor <;> omega) | exact hM _ | exact hPo _ | exact hTa _ | exact hRo _) (fun c_105 => ?_) (fun c_105 => ?_)
      · try simp only [b01_0, bz_0, Classical.not_not] at c_105
        refine rj_iinc (pc := 159) dX11_lastOf_159 (Nat.le_of_ble_eq_true rfl) rfl ?_
        dsimp only [lsSt, List.set, mLs, mEnt]
        refine r_goto (pc := 162) (tgt := 88) dX11_lastOf_162 (by decide) ?_
        have z := ih (t + 1) r (by omega) hr
        rw [loS, if_neg (fun g => c_105 (by have := g.1; simp only [openB, decide_eq_true_eq] at this; rw [n_open]; omega))]
        exact z
      · try simp only [b01_0, bz_0, Classical.not_not] at c_105
        refine r_aload_n (pc := 108) dX11_lastOf_108 rfl (by first | rfl | exact isRefV_rf _) ?_
        refine rm_getf (pc := 109) dX11_lastOf_109 fX11_11 (by assumption) rfl ?_
        refine r_iload (pc := 112) dX11_lastOf_112 rfl ?_
        refine rj_iconst (pc := 114) dX11_lastOf_114 ?_
        refine r_callS2 (pc := 115) dX11_lastOf_115 qX11_ofScope kX11_42 sX11_ofScope (Nat.le_of_ble_eq_true rfl) (m_ofScope (d + 2)) (fun v_115 h_115 q_115 => ?_)
        obtain ⟨rfl, rfl⟩ := q_115
        refine rj_iald (pc := 118) (j := 19 + 4 * t) dX11_lastOf_118 (by first | exact isM.g0 (by assumption) | exact isM.g3 (by assumption) | exact isM.g4 (by assumption) | exact isM.g8 (by assumption) | exact isM.g7 (by assumption) | exact isM.g6 (by assumption) | exact isM.g5 (by assumption) | exact isM.g1 (by assumption) | exact isM.g2 (by assumption)) (by first | assumption | exact b01_r | exact bz_r | omega | (constructor <;> omega) | exact hM _ | exact hPo _ | exact hTa _ | exact hRo _) (by first | assumption | exact b01_r | exact bz_r | omega | (constructor <;> omega) | exact hM _ | exact hPo _ | exact hTa _ | exact hRo _) (by first | assumption | exact b01_r | exact bz_r | omega | (constructor <;> omega) | exact hM _ | exact hPo _ | exact hTa _ | exact hRo _) (by omega) ?_
        refine r_iload_n (pc := 119) dX11_lastOf_119 rfl ?_
        refine rj_icmp_ne (pc := 120) (tgt := 159) dX11_lastOf_120 (by decide) (by first | assumption | exact b01_r | exact bz_r | omega | (constructor <;> omega) | exact hM _ | exact hPo _ | exact hTa _ | exact hRo _) (by first | assumption | exact b01_r | exact bz_r | omega | (constructor <;> omega) | exact hM _ | exact hPo _ | exact hTa _ | exact hRo _) (fun c_120 => ?_) (fun c_120 => ?_)
        · refine rj_iinc (pc := 159) dX11_lastOf_159 (Nat.le_of_ble_eq_true rfl) rfl ?_
          dsimp only [lsSt, List.set, mLs, mEnt]
          refine r_goto (pc := 162) (tgt := 88) dX11_lastOf_162 (by decide) ?_
          have z := ih (t + 1) r (by omega) hr
          rw [loS, if_neg (fun g => c_120 g.2.1)]
          exact z
        · refine r_aload_n (pc := 123) dX11_lastOf_123 rfl (by first | rfl | exact isRefV_rf _) ?_
          refine rm_getf (pc := 124) dX11_lastOf_124 fX11_11 (by assumption) rfl ?_
          refine r_iload (pc := 127) dX11_lastOf_127 rfl ?_
          refine rj_iconst (pc := 129) dX11_lastOf_129 ?_
          refine r_callS2 (pc := 130) dX11_lastOf_130 qX11_ofScope kX11_42 sX11_ofScope (Nat.le_of_ble_eq_true rfl) (m_ofScope (d + 2)) (fun v_130 h_130 q_130 => ?_)
          obtain ⟨rfl, rfl⟩ := q_130
          refine rj_iald (pc := 133) (j := 20 + 4 * t) dX11_lastOf_133 (by first | exact isM.g0 (by assumption) | exact isM.g3 (by assumption) | exact isM.g4 (by assumption) | exact isM.g8 (by assumption) | exact isM.g7 (by assumption) | exact isM.g6 (by assumption) | exact isM.g5 (by assumption) | exact isM.g1 (by assumption) | exact isM.g2 (by assumption)) (by first | assumption | exact b01_r | exact bz_r | omega | (constructor <;> omega) | exact hM _ | exact hPo _ | exact hTa _ | exact hRo _) (by first | assumption | exact b01_r | exact bz_r | omega | (constructor <;> omega) | exact hM _ | exact hPo _ | exact hTa _ | exact hRo _) (by first | assumption | exact b01_r | exact bz_r | omega | (constructor <;> omega) | exact hM _ | exact hPo _ | exact hTa _ | exact hRo _) (by omega) ?_
          refine r_iload_n (pc := 134) dX11_lastOf_134 rfl ?_
          refine rj_icmp_ge (pc := 135) (tgt := 141) dX11_lastOf_135 (by decide) (by first | assumption | exact b01_r | exact bz_r | omega | (constructor <;> omega) | exact hM _ | exact hPo _ | exact hTa _ | exact hRo _) (by first | assumption | exact b01_r | exact bz_r | omega | (constructor <;> omega) | exact hM _ | exact hPo _ | exact hTa _ | exact hRo _) (fun c_135 => ?_) (fun c_135 => ?_)
          · refine rj_bipush (pc := 141) dX11_lastOf_141 (by decide +kernel) ?_
            refine r_iload (pc := 143) dX11_lastOf_143 rfl ?_
            refine rj_iadd (pc := 145) dX11_lastOf_145 ?_
            refine r_istore_n (pc := 146) dX11_lastOf_146 (Nat.le_of_ble_eq_true rfl) ?_
            dsimp only [lsSt, List.set, mLs, mEnt]
            refine r_aload_n (pc := 147) dX11_lastOf_147 rfl (by first | rfl | exact isRefV_rf _) ?_
            refine rm_getf (pc := 148) dX11_lastOf_148 fX11_11 (by assumption) rfl ?_
            refine r_iload (pc := 151) dX11_lastOf_151 rfl ?_
            refine rj_iconst (pc := 153) dX11_lastOf_153 ?_
            refine r_callS2 (pc := 154) dX11_lastOf_154 qX11_ofScope kX11_42 sX11_ofScope (Nat.le_of_ble_eq_true rfl) (m_ofScope (d + 2)) (fun v_154 h_154 q_154 => ?_)
            obtain ⟨rfl, rfl⟩ := q_154
            refine rj_iald (pc := 157) (j := 20 + 4 * t) dX11_lastOf_157 (by first | exact isM.g0 (by assumption) | exact isM.g3 (by assumption) | exact isM.g4 (by assumption) | exact isM.g8 (by assumption) | exact isM.g7 (by assumption) | exact isM.g6 (by assumption) | exact isM.g5 (by assumption) | exact isM.g1 (by assumption) | exact isM.g2 (by assumption)) (by first | assumption | exact b01_r | exact bz_r | omega | (constructor <;> omega) | exact hM _ | exact hPo _ | exact hTa _ | exact hRo _) (by first | assumption | exact b01_r | exact bz_r | omega | (constructor <;> omega) | exact hM _ | exact hPo _ | exact hTa _ | exact hRo _) (by first | assumption | exact b01_r | exact bz_r | omega | (constructor <;> omega) | exact hM _ | exact hPo _ | exact hTa _ | exact hRo _) (by omega) ?_
            refine r_istore_n (pc := 158) dX11_lastOf_158 (Nat.le_of_ble_eq_true rfl) ?_
            dsimp only [lsSt, List.set, mLs, mEnt]
            refine rj_iinc (pc := 159) dX11_lastOf_159 (Nat.le_of_ble_eq_true rfl) rfl ?_
            dsimp only [lsSt, List.set, mLs, mEnt]
            refine r_goto (pc := 162) (tgt := 88) dX11_lastOf_162 (by decide) ?_
            have z := ih (t + 1) (100 + (t : Int), m (20 + 4 * t)) (by omega) (hM _)
            rw [loS, if_pos ⟨by simp only [openB, decide_eq_true_eq]; rw [n_open] at c_105; exact c_105.2.2, c_120, c_135⟩]
            exact z
          · refine r_goto (pc := 138) (tgt := 159) dX11_lastOf_138 (by decide) ?_
            refine rj_iinc (pc := 159) dX11_lastOf_159 (Nat.le_of_ble_eq_true rfl) rfl ?_
            dsimp only [lsSt, List.set, mLs, mEnt]
            refine r_goto (pc := 162) (tgt := 88) dX11_lastOf_162 (by decide) ?_
            have z := ih (t + 1) r (by omega) hr
            rw [loS, if_neg (fun g => c_135 g.2.2)]
            exact z
set_option maxHeartbeats 4000000 in
set_option maxRecDepth 100000 in
theorem L_lastT {G : mG} {l : Launch} (d : Nat) {h : mH} {x s : Nat} {f4 f6 f8 f9 f10 f11 f12 f13 f14 f16 f18 : Int} {m kp was pool tape pln pap rwd rw : Nat → Int}(hB : isM h x (mFs x f4 f6 f8 f9 f10 f11 f12 f13 f14 f16 f18 s) m kp was pool tape pln pap rwd rw) (hM : ∀ q, InR (m q)) {N C : Nat} (hN : m 1 = (N : Int)) (hcap : N ≤ 90) (hC : m 0 = (C : Int)) (hC1 : 1 ≤ C) (hC2 : C ≤ 60) {a : Int} (ha : InR a) : ∀ (n t : Nat) (r : Int × Int), t + n = N → InR r.2 → RUN G l (d + 3) mX11_lastOf 8 [some (.ref x), some (.int (J a)), some (.int (J r.1)), some (.int (J r.2)), some (.int (J (t : Int)))] [] h (fun v h' => v = some (.int (J (loS m a (C - 1) 1 (loT m a n t r)).1)) ∧ h' = h) := by
  have hB0 := hB
  dsimp only [mFs] at hB
  have r1 := hM 1
  intro n
  induction n with
  | zero =>
    intro t r ht hr
    refine r_iload (pc := 8) dX11_lastOf_8 rfl ?_
    refine r_aload_n (pc := 10) dX11_lastOf_10 rfl (by first | rfl | exact isRefV_rf _) ?_
    refine rm_getf (pc := 11) dX11_lastOf_11 fX11_11 (by assumption) rfl ?_
    refine rj_iconst (pc := 14) dX11_lastOf_14 ?_
    refine rj_iald (pc := 15) (j := 1) dX11_lastOf_15 (by first | exact isM.g0 (by assumption) | exact isM.g3 (by assumption) | exact isM.g4 (by assumption) | exact isM.g8 (by assumption) | exact isM.g7 (by assumption) | exact isM.g6 (by assumption) | exact isM.g5 (by assumption) | exact isM.g1 (by assumption) | exact isM.g2 (by assumption)) (by first | assumption | exact b01_r | exact bz_r | omega | (constructor <;> omega) | exact hM _ | exact hPo _ | exact hTa _ | exact hRo _) (by first | assumption | exact b01_r | exact bz_r | omega | (constructor <;> omega) | exact hM _ | exact hPo _ | exact hTa _ | exact hRo _) (by first | assumption | exact b01_r | exact bz_r | omega | (constructor <;> omega) | exact hM _ | exact hPo _ | exact hTa _ | exact hRo _) rfl ?_
    refine rj_icmp_ge (pc := 16) (tgt := 85) dX11_lastOf_16 (by decide) (by first | assumption | exact b01_r | exact bz_r | omega | (constructor <;> omega) | exact hM _ | exact hPo _ | exact hTa _ | exact hRo _) (by first | assumption | exact b01_r | exact bz_r | omega | (constructor <;> omega) | exact hM _ | exact hPo _ | exact hTa _ | exact hRo _) (fun c_16 => ?_) (fun c_16 => ?_)
    · refine rj_iconst (pc := 85) dX11_lastOf_85 ?_
      refine r_istore (pc := 86) dX11_lastOf_86 (Nat.le_of_ble_eq_true rfl) ?_
      dsimp only [lsSt, List.set, mLs, mEnt]
      exact L_lastS d hB0 hM hN hcap hC hC1 hC2 ha (C - 1) 1 r (by omega) hr
    · exfalso; omega
  | succ n ih =>
    intro t r ht hr
    have r2 := hM (260 + 14 * t)
    refine r_iload (pc := 8) dX11_lastOf_8 rfl ?_
    refine r_aload_n (pc := 10) dX11_lastOf_10 rfl (by first | rfl | exact isRefV_rf _) ?_
    refine rm_getf (pc := 11) dX11_lastOf_11 fX11_11 (by assumption) rfl ?_
    refine rj_iconst (pc := 14) dX11_lastOf_14 ?_
    refine rj_iald (pc := 15) (j := 1) dX11_lastOf_15 (by first | exact isM.g0 (by assumption) | exact isM.g3 (by assumption) | exact isM.g4 (by assumption) | exact isM.g8 (by assumption) | exact isM.g7 (by assumption) | exact isM.g6 (by assumption) | exact isM.g5 (by assumption) | exact isM.g1 (by assumption) | exact isM.g2 (by assumption)) (by first | assumption | exact b01_r | exact bz_r | omega | (constructor <;> omega) | exact hM _ | exact hPo _ | exact hTa _ | exact hRo _) (by first | assumption | exact b01_r | exact bz_r | omega | (constructor <;> omega) | exact hM _ | exact hPo _ | exact hTa _ | exact hRo _) (by first | assumption | exact b01_r | exact bz_r | omega | (constructor <;> omega) | exact hM _ | exact hPo _ | exact hTa _ | exact hRo _) rfl ?_
    refine rj_icmp_ge (pc := 16) (tgt := 85) dX11_lastOf_16 (by decide) (by first | assumption | exact b01_r | exact bz_r | omega | (constructor <;> omega) | exact hM _ | exact hPo _ | exact hTa _ | exact hRo _) (by first | assumption | exact b01_r | exact bz_r | omega | (constructor <;> omega) | exact hM _ | exact hPo _ | exact hTa _ | exact hRo _) (fun c_16 => ?_) (fun c_16 => ?_)
    · refine rj_iconst (pc := 85) dX11_lastOf_85 ?_
      refine r_istore (pc := 86) dX11_lastOf_86 (Nat.le_of_ble_eq_true rfl) ?_
      dsimp only [lsSt, List.set, mLs, mEnt]
      exfalso; omega
    · refine r_aload_n (pc := 19) dX11_lastOf_19 rfl (by first | rfl | exact isRefV_rf _) ?_
      refine r_iload (pc := 20) dX11_lastOf_20 rfl ?_
      refine r_callV1 (pc := 22) dX11_lastOf_22 qX11_isHeld kX11_119 vX11_isHeld (by exact isM.gx (by assumption)) rfl rfl (Nat.le_of_ble_eq_true rfl) (m_isHeld (d + 1) hB hM (by omega) (by omega)) (fun v_22 h_22 q_22 => ?_)
      obtain ⟨rfl, rfl⟩ := q_22
      refine rj_if_eq (pc := 25) (tgt := 79) dX11_lastOf_25 (by decide) (by first | assumption | exact b01_r | exact bz_r | omega | (constructor <;> omega) | exact hM _ | exact hPo _ | exact hTa _ | exact hRo _) (fun c_25 => ?_) (fun c_25 => ?_)
      · try simp only [b01_0, bz_0, Classical.not_not] at c_25
        refine rj_iinc (pc := 79) dX11_lastOf_79 (Nat.le_of_ble_eq_true rfl) rfl ?_
        dsimp only [lsSt, List.set, mLs, mEnt]
        refine r_goto (pc := 82) (tgt := 8) dX11_lastOf_82 (by decide) ?_
        have z := ih (t + 1) r (by omega) hr
        rw [loT, if_neg (fun g => c_25 (by have := g.1; simp only [heldB, decide_eq_true_eq] at this; rw [n_held]; exact this))]
        exact z
      · try simp only [b01_0, bz_0, Classical.not_not] at c_25
        refine r_aload_n (pc := 28) dX11_lastOf_28 rfl (by first | rfl | exact isRefV_rf _) ?_
        refine rm_getf (pc := 29) dX11_lastOf_29 fX11_11 (by assumption) rfl ?_
        refine r_iload (pc := 32) dX11_lastOf_32 rfl ?_
        refine rj_iconst (pc := 34) dX11_lastOf_34 ?_
        refine rj_iconst (pc := 35) dX11_lastOf_35 ?_
        refine r_callS3 (pc := 36) dX11_lastOf_36 qX11_ofThing kX11_54 sX11_ofThing (Nat.le_of_ble_eq_true rfl) (m_ofThing (d + 2)) (fun v_36 h_36 q_36 => ?_)
        obtain ⟨rfl, rfl⟩ := q_36
        refine rj_iald (pc := 39) (j := 259 + 14 * t) dX11_lastOf_39 (by first | exact isM.g0 (by assumption) | exact isM.g3 (by assumption) | exact isM.g4 (by assumption) | exact isM.g8 (by assumption) | exact isM.g7 (by assumption) | exact isM.g6 (by assumption) | exact isM.g5 (by assumption) | exact isM.g1 (by assumption) | exact isM.g2 (by assumption)) (by first | assumption | exact b01_r | exact bz_r | omega | (constructor <;> omega) | exact hM _ | exact hPo _ | exact hTa _ | exact hRo _) (by first | assumption | exact b01_r | exact bz_r | omega | (constructor <;> omega) | exact hM _ | exact hPo _ | exact hTa _ | exact hRo _) (by first | assumption | exact b01_r | exact bz_r | omega | (constructor <;> omega) | exact hM _ | exact hPo _ | exact hTa _ | exact hRo _) (by omega) ?_
        refine r_iload_n (pc := 40) dX11_lastOf_40 rfl ?_
        refine rj_icmp_ne (pc := 41) (tgt := 79) dX11_lastOf_41 (by decide) (by first | assumption | exact b01_r | exact bz_r | omega | (constructor <;> omega) | exact hM _ | exact hPo _ | exact hTa _ | exact hRo _) (by first | assumption | exact b01_r | exact bz_r | omega | (constructor <;> omega) | exact hM _ | exact hPo _ | exact hTa _ | exact hRo _) (fun c_41 => ?_) (fun c_41 => ?_)
        · refine rj_iinc (pc := 79) dX11_lastOf_79 (Nat.le_of_ble_eq_true rfl) rfl ?_
          dsimp only [lsSt, List.set, mLs, mEnt]
          refine r_goto (pc := 82) (tgt := 8) dX11_lastOf_82 (by decide) ?_
          have z := ih (t + 1) r (by omega) hr
          rw [loT, if_neg (fun g => c_41 g.2.1)]
          exact z
        · refine r_aload_n (pc := 44) dX11_lastOf_44 rfl (by first | rfl | exact isRefV_rf _) ?_
          refine rm_getf (pc := 45) dX11_lastOf_45 fX11_11 (by assumption) rfl ?_
          refine r_iload (pc := 48) dX11_lastOf_48 rfl ?_
          refine rj_iconst (pc := 50) dX11_lastOf_50 ?_
          refine rj_iconst (pc := 51) dX11_lastOf_51 ?_
          refine r_callS3 (pc := 52) dX11_lastOf_52 qX11_ofThing kX11_54 sX11_ofThing (Nat.le_of_ble_eq_true rfl) (m_ofThing (d + 2)) (fun v_52 h_52 q_52 => ?_)
          obtain ⟨rfl, rfl⟩ := q_52
          refine rj_iald (pc := 55) (j := 260 + 14 * t) dX11_lastOf_55 (by first | exact isM.g0 (by assumption) | exact isM.g3 (by assumption) | exact isM.g4 (by assumption) | exact isM.g8 (by assumption) | exact isM.g7 (by assumption) | exact isM.g6 (by assumption) | exact isM.g5 (by assumption) | exact isM.g1 (by assumption) | exact isM.g2 (by assumption)) (by first | assumption | exact b01_r | exact bz_r | omega | (constructor <;> omega) | exact hM _ | exact hPo _ | exact hTa _ | exact hRo _) (by first | assumption | exact b01_r | exact bz_r | omega | (constructor <;> omega) | exact hM _ | exact hPo _ | exact hTa _ | exact hRo _) (by first | assumption | exact b01_r | exact bz_r | omega | (constructor <;> omega) | exact hM _ | exact hPo _ | exact hTa _ | exact hRo _) (by omega) ?_
          refine r_iload_n (pc := 56) dX11_lastOf_56 rfl ?_
          refine rj_icmp_ge (pc := 57) (tgt := 63) dX11_lastOf_57 (by decide) (by first | assumption | exact b01_r | exact bz_r | omega | (constructor <;> omega) | exact hM _ | exact hPo _ | exact hTa _ | exact hRo _) (by first | assumption | exact b01_r | exact bz_r | omega | (constructor <;> omega) | exact hM _ | exact hPo _ | exact hTa _ | exact hRo _) (fun c_57 => ?_) (fun c_57 => ?_)
          · refine r_iload (pc := 63) dX11_lastOf_63 rfl ?_
            refine r_istore_n (pc := 65) dX11_lastOf_65 (Nat.le_of_ble_eq_true rfl) ?_
            dsimp only [lsSt, List.set, mLs, mEnt]
            refine r_aload_n (pc := 66) dX11_lastOf_66 rfl (by first | rfl | exact isRefV_rf _) ?_
            refine rm_getf (pc := 67) dX11_lastOf_67 fX11_11 (by assumption) rfl ?_
            refine r_iload (pc := 70) dX11_lastOf_70 rfl ?_
            refine rj_iconst (pc := 72) dX11_lastOf_72 ?_
            refine rj_iconst (pc := 73) dX11_lastOf_73 ?_
            refine r_callS3 (pc := 74) dX11_lastOf_74 qX11_ofThing kX11_54 sX11_ofThing (Nat.le_of_ble_eq_true rfl) (m_ofThing (d + 2)) (fun v_74 h_74 q_74 => ?_)
            obtain ⟨rfl, rfl⟩ := q_74
            refine rj_iald (pc := 77) (j := 260 + 14 * t) dX11_lastOf_77 (by first | exact isM.g0 (by assumption) | exact isM.g3 (by assumption) | exact isM.g4 (by assumption) | exact isM.g8 (by assumption) | exact isM.g7 (by assumption) | exact isM.g6 (by assumption) | exact isM.g5 (by assumption) | exact isM.g1 (by assumption) | exact isM.g2 (by assumption)) (by first | assumption | exact b01_r | exact bz_r | omega | (constructor <;> omega) | exact hM _ | exact hPo _ | exact hTa _ | exact hRo _) (by first | assumption | exact b01_r | exact bz_r | omega | (constructor <;> omega) | exact hM _ | exact hPo _ | exact hTa _ | exact hRo _) (by first | assumption | exact b01_r | exact bz_r | omega | (constructor <;> omega) | exact hM _ | exact hPo _ | exact hTa _ | exact hRo _) (by omega) ?_
            refine r_istore_n (pc := 78) dX11_lastOf_78 (Nat.le_of_ble_eq_true rfl) ?_
            dsimp only [lsSt, List.set, mLs, mEnt]
            refine rj_iinc (pc := 79) dX11_lastOf_79 (Nat.le_of_ble_eq_true rfl) rfl ?_
            dsimp only [lsSt, List.set, mLs, mEnt]
            refine r_goto (pc := 82) (tgt := 8) dX11_lastOf_82 (by decide) ?_
            have z := ih (t + 1) ((t : Int), m (260 + 14 * t)) (by omega) (hM _)
            rw [loT, if_pos ⟨by simp only [heldB, decide_eq_true_eq]; rw [n_held] at c_25; exact c_25, c_41, c_57⟩]
            exact z
          · refine r_goto (pc := 60) (tgt := 79) dX11_lastOf_60 (by decide) ?_
            refine rj_iinc (pc := 79) dX11_lastOf_79 (Nat.le_of_ble_eq_true rfl) rfl ?_
            dsimp only [lsSt, List.set, mLs, mEnt]
            refine r_goto (pc := 82) (tgt := 8) dX11_lastOf_82 (by decide) ?_
            have z := ih (t + 1) r (by omega) hr
            rw [loT, if_neg (fun g => c_57 g.2.2)]
            exact z
set_option maxHeartbeats 4000000 in
set_option maxRecDepth 100000 in
theorem m_lastOf {G : mG} {l : Launch} (d : Nat) {h : mH} {x s : Nat} {f4 f6 f8 f9 f10 f11 f12 f13 f14 f16 f18 : Int} {m kp was pool tape pln pap rwd rw : Nat → Int}(hB : isM h x (mFs x f4 f6 f8 f9 f10 f11 f12 f13 f14 f16 f18 s) m kp was pool tape pln pap rwd rw) (hM : ∀ q, InR (m q)) {N C : Nat} (hN : m 1 = (N : Int)) (hcap : N ≤ 90) (hC : m 0 = (C : Int)) (hC1 : 1 ≤ C) (hC2 : C ≤ 60) {a : Int} (ha : InR a) : RUNM G l (d + 3) mX11_lastOf [.ref x, .int (J a)] h (fun v h' => v = some (.int (J (lastM m a N C))) ∧ h' = h) := by
  refine RUNM.of (by decide +kernel) (Nat.le_of_ble_eq_true rfl) ?_
  refine rj_bipush (pc := 0) dX11_lastOf_0 (by decide +kernel) ?_
  refine r_istore_n (pc := 2) dX11_lastOf_2 (Nat.le_of_ble_eq_true rfl) ?_
  dsimp only [lsSt, List.set, mLs, mEnt]
  refine rj_iconst (pc := 3) dX11_lastOf_3 ?_
  refine r_istore_n (pc := 4) dX11_lastOf_4 (Nat.le_of_ble_eq_true rfl) ?_
  dsimp only [lsSt, List.set, mLs, mEnt]
  refine rj_iconst (pc := 5) dX11_lastOf_5 ?_
  refine r_istore (pc := 6) dX11_lastOf_6 (Nat.le_of_ble_eq_true rfl) ?_
  dsimp only [lsSt, List.set, mLs, mEnt]
  exact L_lastT d hB hM hN hcap hC hC1 hC2 ha N 0 (-5, -1) (by omega) (by decide)
abbrev aheadP (m : Nat → Int) (a b : Nat) : Prop := m (1609 + 72 * b) < m (1609 + 72 * a) ∨ (m (1609 + 72 * a) = m (1609 + 72 * b) ∧ (m (1613 + 72 * a) < m (1613 + 72 * b) ∨ (m (1613 + 72 * a) = m (1613 + 72 * b) ∧ a < b)))
set_option maxHeartbeats 4000000 in
set_option maxRecDepth 100000 in
theorem m_isAhead {G : mG} {l : Launch} (d : Nat) {h : mH} {x s : Nat} {f4 f6 f8 f9 f10 f11 f12 f13 f14 f16 f18 : Int} {m kp was pool tape pln pap rwd rw : Nat → Int}(hB : isM h x (mFs x f4 f6 f8 f9 f10 f11 f12 f13 f14 f16 f18 s) m kp was pool tape pln pap rwd rw) (hM : ∀ q, InR (m q)) {a b : Nat} (ha : a ≤ 9) (hb : b ≤ 9) (hpa : -99 ≤ m (1609 + 72 * a) ∧ m (1609 + 72 * a) ≤ 99) (hpb : -99 ≤ m (1609 + 72 * b) ∧ m (1609 + 72 * b) ≤ 99) : RUNM G l (d + 1) mX11_isAhead [.ref x, .int (J (a : Int)), .int (J (b : Int))] h (fun v h' => v = some (.int (J (b01 (aheadP m a b)))) ∧ h' = h) := by
  dsimp only [mFs] at hB
  refine RUNM.of (by decide +kernel) (Nat.le_of_ble_eq_true rfl) ?_
  refine r_aload_n (pc := 0) dX11_isAhead_0 rfl (by first | rfl | exact isRefV_rf _) ?_
  refine rm_getf (pc := 1) dX11_isAhead_1 fX11_11 (by assumption) rfl ?_
  refine r_iload_n (pc := 4) dX11_isAhead_4 rfl ?_
  refine rj_iconst (pc := 5) dX11_isAhead_5 ?_
  refine rj_iconst (pc := 6) dX11_isAhead_6 ?_
  refine r_callS3 (pc := 7) dX11_isAhead_7 qX11_ofTask kX11_58 sX11_ofTask (Nat.le_of_ble_eq_true rfl) (m_ofTask d) (fun v_7 h_7 q_7 => ?_)
  obtain ⟨rfl, rfl⟩ := q_7
  refine rj_iald (pc := 10) (j := 1609 + 72 * a) dX11_isAhead_10 (by first | exact isM.g0 (by assumption) | exact isM.g3 (by assumption) | exact isM.g4 (by assumption) | exact isM.g8 (by assumption) | exact isM.g7 (by assumption) | exact isM.g6 (by assumption) | exact isM.g5 (by assumption) | exact isM.g1 (by assumption) | exact isM.g2 (by assumption)) (by first | assumption | exact b01_r | exact bz_r | omega | (constructor <;> omega) | exact hM _ | exact hPo _ | exact hTa _ | exact hRo _) (by first | assumption | exact b01_r | exact bz_r | omega | (constructor <;> omega) | exact hM _ | exact hPo _ | exact hTa _ | exact hRo _) (by first | assumption | exact b01_r | exact bz_r | omega | (constructor <;> omega) | exact hM _ | exact hPo _ | exact hTa _ | exact hRo _) (by omega) ?_
  refine r_aload_n (pc := 11) dX11_isAhead_11 rfl (by first | rfl | exact isRefV_rf _) ?_
  refine rm_getf (pc := 12) dX11_isAhead_12 fX11_11 (by assumption) rfl ?_
  refine r_iload_n (pc := 15) dX11_isAhead_15 rfl ?_
  refine rj_iconst (pc := 16) dX11_isAhead_16 ?_
  refine rj_iconst (pc := 17) dX11_isAhead_17 ?_
  refine r_callS3 (pc := 18) dX11_isAhead_18 qX11_ofTask kX11_58 sX11_ofTask (Nat.le_of_ble_eq_true rfl) (m_ofTask d) (fun v_18 h_18 q_18 => ?_)
  obtain ⟨rfl, rfl⟩ := q_18
  refine rj_iald (pc := 21) (j := 1609 + 72 * b) dX11_isAhead_21 (by first | exact isM.g0 (by assumption) | exact isM.g3 (by assumption) | exact isM.g4 (by assumption) | exact isM.g8 (by assumption) | exact isM.g7 (by assumption) | exact isM.g6 (by assumption) | exact isM.g5 (by assumption) | exact isM.g1 (by assumption) | exact isM.g2 (by assumption)) (by first | assumption | exact b01_r | exact bz_r | omega | (constructor <;> omega) | exact hM _ | exact hPo _ | exact hTa _ | exact hRo _) (by first | assumption | exact b01_r | exact bz_r | omega | (constructor <;> omega) | exact hM _ | exact hPo _ | exact hTa _ | exact hRo _) (by first | assumption | exact b01_r | exact bz_r | omega | (constructor <;> omega) | exact hM _ | exact hPo _ | exact hTa _ | exact hRo _) (by omega) ?_
  refine rj_isub (pc := 22) dX11_isAhead_22 ?_
  refine r_istore_n (pc := 23) dX11_isAhead_23 (Nat.le_of_ble_eq_true rfl) ?_
  dsimp only [lsSt, List.set, mLs, mEnt]
  refine r_iload_n (pc := 24) dX11_isAhead_24 rfl ?_
  refine rj_if_eq (pc := 25) (tgt := 38) dX11_isAhead_25 (by decide) (by first | assumption | exact b01_r | exact bz_r | omega | (constructor <;> omega) | exact hM _ | exact hPo _ | exact hTa _ | exact hRo _) (fun c_25 => ?_) (fun c_25 => ?_)
  · try simp only [b01_0, bz_0, Classical.not_not] at c_25
    refine r_aload_n (pc := 38) dX11_isAhead_38 rfl (by first | rfl | exact isRefV_rf _) ?_
    refine rm_getf (pc := 39) dX11_isAhead_39 fX11_11 (by assumption) rfl ?_
    refine r_iload_n (pc := 42) dX11_isAhead_42 rfl ?_
    refine rj_iconst (pc := 43) dX11_isAhead_43 ?_
    refine rj_iconst (pc := 44) dX11_isAhead_44 ?_
    refine r_callS3 (pc := 45) dX11_isAhead_45 qX11_ofTask kX11_58 sX11_ofTask (Nat.le_of_ble_eq_true rfl) (m_ofTask d) (fun v_45 h_45 q_45 => ?_)
    obtain ⟨rfl, rfl⟩ := q_45
    refine rj_iald (pc := 48) (j := 1613 + 72 * a) dX11_isAhead_48 (by first | exact isM.g0 (by assumption) | exact isM.g3 (by assumption) | exact isM.g4 (by assumption) | exact isM.g8 (by assumption) | exact isM.g7 (by assumption) | exact isM.g6 (by assumption) | exact isM.g5 (by assumption) | exact isM.g1 (by assumption) | exact isM.g2 (by assumption)) (by first | assumption | exact b01_r | exact bz_r | omega | (constructor <;> omega) | exact hM _ | exact hPo _ | exact hTa _ | exact hRo _) (by first | assumption | exact b01_r | exact bz_r | omega | (constructor <;> omega) | exact hM _ | exact hPo _ | exact hTa _ | exact hRo _) (by first | assumption | exact b01_r | exact bz_r | omega | (constructor <;> omega) | exact hM _ | exact hPo _ | exact hTa _ | exact hRo _) (by omega) ?_
    refine r_aload_n (pc := 49) dX11_isAhead_49 rfl (by first | rfl | exact isRefV_rf _) ?_
    refine rm_getf (pc := 50) dX11_isAhead_50 fX11_11 (by assumption) rfl ?_
    refine r_iload_n (pc := 53) dX11_isAhead_53 rfl ?_
    refine rj_iconst (pc := 54) dX11_isAhead_54 ?_
    refine rj_iconst (pc := 55) dX11_isAhead_55 ?_
    refine r_callS3 (pc := 56) dX11_isAhead_56 qX11_ofTask kX11_58 sX11_ofTask (Nat.le_of_ble_eq_true rfl) (m_ofTask d) (fun v_56 h_56 q_56 => ?_)
    obtain ⟨rfl, rfl⟩ := q_56
    refine rj_iald (pc := 59) (j := 1613 + 72 * b) dX11_isAhead_59 (by first | exact isM.g0 (by assumption) | exact isM.g3 (by assumption) | exact isM.g4 (by assumption) | exact isM.g8 (by assumption) | exact isM.g7 (by assumption) | exact isM.g6 (by assumption) | exact isM.g5 (by assumption) | exact isM.g1 (by assumption) | exact isM.g2 (by assumption)) (by first | assumption | exact b01_r | exact bz_r | omega | (constructor <;> omega) | exact hM _ | exact hPo _ | exact hTa _ | exact hRo _) (by first | assumption | exact b01_r | exact bz_r | omega | (constructor <;> omega) | exact hM _ | exact hPo _ | exact hTa _ | exact hRo _) (by first | assumption | exact b01_r | exact bz_r | omega | (constructor <;> omega) | exact hM _ | exact hPo _ | exact hTa _ | exact hRo _) (by omega) ?_
    refine rj_icmp_eq (pc := 60) (tgt := 96) dX11_isAhead_60 (by decide) (by first | assumption | exact b01_r | exact bz_r | omega | (constructor <;> omega) | exact hM _ | exact hPo _ | exact hTa _ | exact hRo _) (by first | assumption | exact b01_r | exact bz_r | omega | (constructor <;> omega) | exact hM _ | exact hPo _ | exact hTa _ | exact hRo _) (fun c_60 => ?_) (fun c_60 => ?_)
    · refine r_iload_n (pc := 96) dX11_isAhead_96 rfl ?_
      refine r_iload_n (pc := 97) dX11_isAhead_97 rfl ?_
      refine rj_icmp_ge (pc := 98) (tgt := 105) dX11_isAhead_98 (by decide) (by first | assumption | exact b01_r | exact bz_r | omega | (constructor <;> omega) | exact hM _ | exact hPo _ | exact hTa _ | exact hRo _) (by first | assumption | exact b01_r | exact bz_r | omega | (constructor <;> omega) | exact hM _ | exact hPo _ | exact hTa _ | exact hRo _) (fun c_98 => ?_) (fun c_98 => ?_)
      · refine rj_iconst (pc := 105) dX11_isAhead_105 ?_
        refine r_ireturn (pc := 106) .boolean dX11_isAhead_106 rfl (by first | exact nar_J0 | exact nar_J1 | exact nar_b01 | exact nar_bz) ?_
        first
        | exact ⟨vt (by omega), rfl⟩
        | exact ⟨vf (by omega), rfl⟩
      · refine rj_iconst (pc := 101) dX11_isAhead_101 ?_
        refine r_goto (pc := 102) (tgt := 106) dX11_isAhead_102 (by decide) ?_
        refine r_ireturn (pc := 106) .boolean dX11_isAhead_106 rfl (by first | exact nar_J0 | exact nar_J1 | exact nar_b01 | exact nar_bz) ?_
        first
        | exact ⟨vt (by omega), rfl⟩
        | exact ⟨vf (by omega), rfl⟩
    · refine r_aload_n (pc := 63) dX11_isAhead_63 rfl (by first | rfl | exact isRefV_rf _) ?_
      refine rm_getf (pc := 64) dX11_isAhead_64 fX11_11 (by assumption) rfl ?_
      refine r_iload_n (pc := 67) dX11_isAhead_67 rfl ?_
      refine rj_iconst (pc := 68) dX11_isAhead_68 ?_
      refine rj_iconst (pc := 69) dX11_isAhead_69 ?_
      refine r_callS3 (pc := 70) dX11_isAhead_70 qX11_ofTask kX11_58 sX11_ofTask (Nat.le_of_ble_eq_true rfl) (m_ofTask d) (fun v_70 h_70 q_70 => ?_)
      obtain ⟨rfl, rfl⟩ := q_70
      refine rj_iald (pc := 73) (j := 1613 + 72 * a) dX11_isAhead_73 (by first | exact isM.g0 (by assumption) | exact isM.g3 (by assumption) | exact isM.g4 (by assumption) | exact isM.g8 (by assumption) | exact isM.g7 (by assumption) | exact isM.g6 (by assumption) | exact isM.g5 (by assumption) | exact isM.g1 (by assumption) | exact isM.g2 (by assumption)) (by first | assumption | exact b01_r | exact bz_r | omega | (constructor <;> omega) | exact hM _ | exact hPo _ | exact hTa _ | exact hRo _) (by first | assumption | exact b01_r | exact bz_r | omega | (constructor <;> omega) | exact hM _ | exact hPo _ | exact hTa _ | exact hRo _) (by first | assumption | exact b01_r | exact bz_r | omega | (constructor <;> omega) | exact hM _ | exact hPo _ | exact hTa _ | exact hRo _) (by omega) ?_
      refine r_aload_n (pc := 74) dX11_isAhead_74 rfl (by first | rfl | exact isRefV_rf _) ?_
      refine rm_getf (pc := 75) dX11_isAhead_75 fX11_11 (by assumption) rfl ?_
      refine r_iload_n (pc := 78) dX11_isAhead_78 rfl ?_
      refine rj_iconst (pc := 79) dX11_isAhead_79 ?_
      refine rj_iconst (pc := 80) dX11_isAhead_80 ?_
      refine r_callS3 (pc := 81) dX11_isAhead_81 qX11_ofTask kX11_58 sX11_ofTask (Nat.le_of_ble_eq_true rfl) (m_ofTask d) (fun v_81 h_81 q_81 => ?_)
      obtain ⟨rfl, rfl⟩ := q_81
      refine rj_iald (pc := 84) (j := 1613 + 72 * b) dX11_isAhead_84 (by first | exact isM.g0 (by assumption) | exact isM.g3 (by assumption) | exact isM.g4 (by assumption) | exact isM.g8 (by assumption) | exact isM.g7 (by assumption) | exact isM.g6 (by assumption) | exact isM.g5 (by assumption) | exact isM.g1 (by assumption) | exact isM.g2 (by assumption)) (by first | assumption | exact b01_r | exact bz_r | omega | (constructor <;> omega) | exact hM _ | exact hPo _ | exact hTa _ | exact hRo _) (by first | assumption | exact b01_r | exact bz_r | omega | (constructor <;> omega) | exact hM _ | exact hPo _ | exact hTa _ | exact hRo _) (by first | assumption | exact b01_r | exact bz_r | omega | (constructor <;> omega) | exact hM _ | exact hPo _ | exact hTa _ | exact hRo _) (by omega) ?_
      refine rj_icmp_ge (pc := 85) (tgt := 92) dX11_isAhead_85 (by decide) (by first | assumption | exact b01_r | exact bz_r | omega | (constructor <;> omega) | exact hM _ | exact hPo _ | exact hTa _ | exact hRo _) (by first | assumption | exact b01_r | exact bz_r | omega | (constructor <;> omega) | exact hM _ | exact hPo _ | exact hTa _ | exact hRo _) (fun c_85 => ?_) (fun c_85 => ?_)
      · refine rj_iconst (pc := 92) dX11_isAhead_92 ?_
        refine r_goto (pc := 93) (tgt := 106) dX11_isAhead_93 (by decide) ?_
        refine r_ireturn (pc := 106) .boolean dX11_isAhead_106 rfl (by first | exact nar_J0 | exact nar_J1 | exact nar_b01 | exact nar_bz) ?_
        first
        | exact ⟨vt (by omega), rfl⟩
        | exact ⟨vf (by omega), rfl⟩
      · refine rj_iconst (pc := 88) dX11_isAhead_88 ?_
        refine r_goto (pc := 89) (tgt := 106) dX11_isAhead_89 (by decide) ?_
        refine r_ireturn (pc := 106) .boolean dX11_isAhead_106 rfl (by first | exact nar_J0 | exact nar_J1 | exact nar_b01 | exact nar_bz) ?_
        first
        | exact ⟨vt (by omega), rfl⟩
        | exact ⟨vf (by omega), rfl⟩
  · try simp only [b01_0, bz_0, Classical.not_not] at c_25
    refine r_iload_n (pc := 28) dX11_isAhead_28 rfl ?_
    refine rj_if_le (pc := 29) (tgt := 36) dX11_isAhead_29 (by decide) (by first | assumption | exact b01_r | exact bz_r | omega | (constructor <;> omega) | exact hM _ | exact hPo _ | exact hTa _ | exact hRo _) (fun c_29 => ?_) (fun c_29 => ?_)
    · refine rj_iconst (pc := 36) dX11_isAhead_36 ?_
      refine r_ireturn (pc := 37) .boolean dX11_isAhead_37 rfl (by first | exact nar_J0 | exact nar_J1 | exact nar_b01 | exact nar_bz) ?_
      first
      | exact ⟨vt (by omega), rfl⟩
      | exact ⟨vf (by omega), rfl⟩
    · refine rj_iconst (pc := 32) dX11_isAhead_32 ?_
      refine r_goto (pc := 33) (tgt := 37) dX11_isAhead_33 (by decide) ?_
      refine r_ireturn (pc := 37) .boolean dX11_isAhead_37 rfl (by first | exact nar_J0 | exact nar_J1 | exact nar_b01 | exact nar_bz) ?_
      first
      | exact ⟨vt (by omega), rfl⟩
      | exact ⟨vf (by omega), rfl⟩
def nxL (m : Nat → Int) : Nat → Nat → Int → Int
  | 0, _, f => f
  | n + 1, t, f => nxL m n (t + 1) (if readyB m t = true ∧ (f < 0 ∨ aheadP m t f.toNat) then (t : Int) else f)
set_option maxHeartbeats 4000000 in
set_option maxRecDepth 100000 in
theorem L_next {G : mG} {l : Launch} (d : Nat) {h : mH} {x s : Nat} {f4 f6 f8 f9 f10 f11 f12 f13 f14 f16 f18 : Int} {m kp was pool tape pln pap rwd rw : Nat → Int}(hB : isM h x (mFs x f4 f6 f8 f9 f10 f11 f12 f13 f14 f16 f18 s) m kp was pool tape pln pap rwd rw) (hM : ∀ q, InR (m q)) {N : Nat} (hN : m 3 = (N : Int)) (hcap : N ≤ 10) (hP : ∀ t, t < N → -99 ≤ m (1609 + 72 * t) ∧ m (1609 + 72 * t) ≤ 99) : ∀ (n t : Nat) (f : Int), t + n = N → f < t → -5 ≤ f → RUN G l (d + 3) mX11_next 5 [some (.ref x), some (.int (J f)), some (.int (J (t : Int)))] [] h (fun v h' => v = some (.int (J (nxL m n t f))) ∧ h' = h) := by
  dsimp only [mFs] at hB
  have r1 := hM 3
  intro n
  induction n with
  | zero =>
    intro t f ht hf hf2
    refine r_iload_n (pc := 5) dX11_next_5 rfl ?_
    refine r_aload_n (pc := 6) dX11_next_6 rfl (by first | rfl | exact isRefV_rf _) ?_
    refine rm_getf (pc := 7) dX11_next_7 fX11_11 (by assumption) rfl ?_
    refine rj_iconst (pc := 10) dX11_next_10 ?_
    refine rj_iald (pc := 11) (j := 3) dX11_next_11 (by first | exact isM.g0 (by assumption) | exact isM.g3 (by assumption) | exact isM.g4 (by assumption) | exact isM.g8 (by assumption) | exact isM.g7 (by assumption) | exact isM.g6 (by assumption) | exact isM.g5 (by assumption) | exact isM.g1 (by assumption) | exact isM.g2 (by assumption)) (by first | assumption | exact b01_r | exact bz_r | omega | (constructor <;> omega) | exact hM _ | exact hPo _ | exact hTa _ | exact hRo _) (by first | assumption | exact b01_r | exact bz_r | omega | (constructor <;> omega) | exact hM _ | exact hPo _ | exact hTa _ | exact hRo _) (by first | assumption | exact b01_r | exact bz_r | omega | (constructor <;> omega) | exact hM _ | exact hPo _ | exact hTa _ | exact hRo _) rfl ?_
    refine rj_icmp_ge (pc := 12) (tgt := 44) dX11_next_12 (by decide) (by first | assumption | exact b01_r | exact bz_r | omega | (constructor <;> omega) | exact hM _ | exact hPo _ | exact hTa _ | exact hRo _) (by first | assumption | exact b01_r | exact bz_r | omega | (constructor <;> omega) | exact hM _ | exact hPo _ | exact hTa _ | exact hRo _) (fun c_12 => ?_) (fun c_12 => ?_)
    · refine r_iload_n (pc := 44) dX11_next_44 rfl ?_
      refine r_ireturn (pc := 45) .int dX11_next_45 rfl (by first | rfl | assumption) ?_
      exact ⟨rfl, rfl⟩
    · exfalso; omega
  | succ n ih =>
    intro t f ht hf hf2
    refine r_iload_n (pc := 5) dX11_next_5 rfl ?_
    refine r_aload_n (pc := 6) dX11_next_6 rfl (by first | rfl | exact isRefV_rf _) ?_
    refine rm_getf (pc := 7) dX11_next_7 fX11_11 (by assumption) rfl ?_
    refine rj_iconst (pc := 10) dX11_next_10 ?_
    refine rj_iald (pc := 11) (j := 3) dX11_next_11 (by first | exact isM.g0 (by assumption) | exact isM.g3 (by assumption) | exact isM.g4 (by assumption) | exact isM.g8 (by assumption) | exact isM.g7 (by assumption) | exact isM.g6 (by assumption) | exact isM.g5 (by assumption) | exact isM.g1 (by assumption) | exact isM.g2 (by assumption)) (by first | assumption | exact b01_r | exact bz_r | omega | (constructor <;> omega) | exact hM _ | exact hPo _ | exact hTa _ | exact hRo _) (by first | assumption | exact b01_r | exact bz_r | omega | (constructor <;> omega) | exact hM _ | exact hPo _ | exact hTa _ | exact hRo _) (by first | assumption | exact b01_r | exact bz_r | omega | (constructor <;> omega) | exact hM _ | exact hPo _ | exact hTa _ | exact hRo _) rfl ?_
    refine rj_icmp_ge (pc := 12) (tgt := 44) dX11_next_12 (by decide) (by first | assumption | exact b01_r | exact bz_r | omega | (constructor <;> omega) | exact hM _ | exact hPo _ | exact hTa _ | exact hRo _) (by first | assumption | exact b01_r | exact bz_r | omega | (constructor <;> omega) | exact hM _ | exact hPo _ | exact hTa _ | exact hRo _) (fun c_12 => ?_) (fun c_12 => ?_)
    · refine r_iload_n (pc := 44) dX11_next_44 rfl ?_
      refine r_ireturn (pc := 45) .int dX11_next_45 rfl (by first | rfl | assumption) ?_
      exfalso; omega
    · refine r_aload_n (pc := 15) dX11_next_15 rfl (by first | rfl | exact isRefV_rf _) ?_
      refine r_iload_n (pc := 16) dX11_next_16 rfl ?_
      refine r_callV1 (pc := 17) dX11_next_17 qX11_isReady kX11_183 vX11_isReady (by exact isM.gx (by assumption)) rfl rfl (Nat.le_of_ble_eq_true rfl) (m_isReady (d + 1) hB hM (by omega) (by omega)) (fun v_17 h_17 q_17 => ?_)
      obtain ⟨rfl, rfl⟩ := q_17
      refine rj_if_eq (pc := 20) (tgt := 38) dX11_next_20 (by decide) (by first | assumption | exact b01_r | exact bz_r | omega | (constructor <;> omega) | exact hM _ | exact hPo _ | exact hTa _ | exact hRo _) (fun c_20 => ?_) (fun c_20 => ?_)
      · try simp only [b01_0, bz_0, Classical.not_not] at c_20
        refine rj_iinc (pc := 38) dX11_next_38 (Nat.le_of_ble_eq_true rfl) rfl ?_
        dsimp only [lsSt, List.set, mLs, mEnt]
        refine r_goto (pc := 41) (tgt := 5) dX11_next_41 (by decide) ?_
        have z := ih (t + 1) f (by omega) (by omega) hf2
        rw [nxL, if_neg (fun g => c_20 (by have := g.1; simp only [readyB, decide_eq_true_eq] at this; rw [n_ready]; exact this))]
        exact z
      · try simp only [b01_0, bz_0, Classical.not_not] at c_20
        refine r_iload_n (pc := 23) dX11_next_23 rfl ?_
        refine rj_if_lt (pc := 24) (tgt := 36) dX11_next_24 (by decide) (by first | assumption | exact b01_r | exact bz_r | omega | (constructor <;> omega) | exact hM _ | exact hPo _ | exact hTa _ | exact hRo _) (fun c_24 => ?_) (fun c_24 => ?_)
        · refine r_iload_n (pc := 36) dX11_next_36 rfl ?_
          refine r_istore_n (pc := 37) dX11_next_37 (Nat.le_of_ble_eq_true rfl) ?_
          dsimp only [lsSt, List.set, mLs, mEnt]
          refine rj_iinc (pc := 38) dX11_next_38 (Nat.le_of_ble_eq_true rfl) rfl ?_
          dsimp only [lsSt, List.set, mLs, mEnt]
          refine r_goto (pc := 41) (tgt := 5) dX11_next_41 (by decide) ?_
          have z := ih (t + 1) (t : Int) (by omega) (by omega) (by omega)
          rw [nxL, if_pos ⟨by simp only [readyB, decide_eq_true_eq]; rw [n_ready] at c_20; exact c_20, Or.inl c_24⟩]
          exact z
        · refine r_aload_n (pc := 27) dX11_next_27 rfl (by first | rfl | exact isRefV_rf _) ?_
          refine r_iload_n (pc := 28) dX11_next_28 rfl ?_
          refine r_iload_n (pc := 29) dX11_next_29 rfl ?_
          refine r_callV2 (pc := 30) dX11_next_30 qX11_isAhead kX11_201 vX11_isAhead (by exact isM.gx (by assumption)) rfl rfl (Nat.le_of_ble_eq_true rfl) (by rw [show f = ((f.toNat : Nat) : Int) by omega]; exact m_isAhead (d + 1) hB hM (a := t) (b := f.toNat) (by omega) (by omega) (hP t (by omega)) (hP _ (by omega))) (fun v_30 h_30 q_30 => ?_)
          obtain ⟨rfl, rfl⟩ := q_30
          refine rj_if_eq (pc := 33) (tgt := 38) dX11_next_33 (by decide) (by first | assumption | exact b01_r | exact bz_r | omega | (constructor <;> omega) | exact hM _ | exact hPo _ | exact hTa _ | exact hRo _) (fun c_33 => ?_) (fun c_33 => ?_)
          · try simp only [b01_0, bz_0, Classical.not_not] at c_33
            refine rj_iinc (pc := 38) dX11_next_38 (Nat.le_of_ble_eq_true rfl) rfl ?_
            dsimp only [lsSt, List.set, mLs, mEnt]
            refine r_goto (pc := 41) (tgt := 5) dX11_next_41 (by decide) ?_
            have z := ih (t + 1) f (by omega) (by omega) hf2
            rw [nxL, if_neg (fun g => g.2.elim c_24 c_33)]
            exact z
          · try simp only [b01_0, bz_0, Classical.not_not] at c_33
            refine r_iload_n (pc := 36) dX11_next_36 rfl ?_
            refine r_istore_n (pc := 37) dX11_next_37 (Nat.le_of_ble_eq_true rfl) ?_
            dsimp only [lsSt, List.set, mLs, mEnt]
            refine rj_iinc (pc := 38) dX11_next_38 (Nat.le_of_ble_eq_true rfl) rfl ?_
            dsimp only [lsSt, List.set, mLs, mEnt]
            refine r_goto (pc := 41) (tgt := 5) dX11_next_41 (by decide) ?_
            have z := ih (t + 1) (t : Int) (by omega) (by omega) (by omega)
            rw [nxL, if_pos ⟨by simp only [readyB, decide_eq_true_eq]; rw [n_ready] at c_20; exact c_20, Or.inr c_33⟩]
            exact z
set_option maxHeartbeats 4000000 in
set_option maxRecDepth 100000 in
theorem m_next {G : mG} {l : Launch} (d : Nat) {h : mH} {x s : Nat} {f4 f6 f8 f9 f10 f11 f12 f13 f14 f16 f18 : Int} {m kp was pool tape pln pap rwd rw : Nat → Int}(hB : isM h x (mFs x f4 f6 f8 f9 f10 f11 f12 f13 f14 f16 f18 s) m kp was pool tape pln pap rwd rw) (hM : ∀ q, InR (m q)) {N : Nat} (hN : m 3 = (N : Int)) (hcap : N ≤ 10) (hP : ∀ t, t < N → -99 ≤ m (1609 + 72 * t) ∧ m (1609 + 72 * t) ≤ 99) : RUNM G l (d + 3) mX11_next [.ref x] h (fun v h' => v = some (.int (J (nxL m N 0 (-5)))) ∧ h' = h) := by
  refine RUNM.of (by decide +kernel) (Nat.le_of_ble_eq_true rfl) ?_
  refine rj_bipush (pc := 0) dX11_next_0 (by decide +kernel) ?_
  refine r_istore_n (pc := 2) dX11_next_2 (Nat.le_of_ble_eq_true rfl) ?_
  dsimp only [lsSt, List.set, mLs, mEnt]
  refine rj_iconst (pc := 3) dX11_next_3 ?_
  refine r_istore_n (pc := 4) dX11_next_4 (Nat.le_of_ble_eq_true rfl) ?_
  dsimp only [lsSt, List.set, mLs, mEnt]
  exact L_next d hB hM hN hcap hP N 0 (-5) (by omega) (by decide) (by decide)
end mg_31
