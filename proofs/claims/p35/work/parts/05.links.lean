/-! ===== methods, links, fields of this claim, as the clean machine asks for them (by program) ===== -/
theorem u0 {w : Cond} (h : w ∈ k2_sels lw_privs) : w ∈ lw_tbl := List.mem_append_left _ h
theorem u1 {w : Cond} (h : w ∈ tables_1_1) : w ∈ lw_tbl := List.mem_append_right _ (List.mem_append_left _ h)
theorem u2 {w : Cond} (h : w ∈ tables_1_2) : w ∈ lw_tbl := List.mem_append_right _ (List.mem_append_right _ (List.mem_append_left _ h))
theorem u3 {w : Cond} (h : w ∈ tables_1_3) : w ∈ lw_tbl := List.mem_append_right _ (List.mem_append_right _ (List.mem_append_right _ (List.mem_append_left _ h)))
theorem u4 {w : Cond} (h : w ∈ tables_1_4) : w ∈ lw_tbl := List.mem_append_right _ (List.mem_append_right _ (List.mem_append_right _ (List.mem_append_right _ (List.mem_append_left _ h))))
theorem u5 {w : Cond} (h : w ∈ tables_1_5) : w ∈ lw_tbl := List.mem_append_right _ (List.mem_append_right _ (List.mem_append_right _ (List.mem_append_right _ (List.mem_append_right _ (List.mem_append_left _ h)))))
theorem u6 {w : Cond} (h : w ∈ tables_1_6) : w ∈ lw_tbl := List.mem_append_right _ (List.mem_append_right _ (List.mem_append_right _ (List.mem_append_right _ (List.mem_append_right _ (List.mem_append_right _ (List.mem_append_left _ h))))))
theorem u7 {w : Cond} (h : w ∈ tables_1_7) : w ∈ lw_tbl := List.mem_append_right _ (List.mem_append_right _ (List.mem_append_right _ (List.mem_append_right _ (List.mem_append_right _ (List.mem_append_right _ (List.mem_append_right _ (h)))))))
def mX0_init : mM := (yX0_init, cX0_init, 1, none)
theorem qX0_init : mMeth mX0_init 0 := ⟨(lw_use_in (u1 (List.mem_of_getElem? (i := 104) rfl)) rfl), (lw_use_in (u1 (List.mem_of_getElem? (i := 7) rfl)) rfl), ⟨by decide +kernel, by decide +kernel⟩, Nat.le_of_ble_eq_true rfl, by decide +kernel⟩
theorem iX0_init : Cond.instanceMethod yX0_init ∈ lw_use := (lw_use_in (u1 (List.mem_of_getElem? (i := 103) rfl)) rfl)
def mX0_gather : mM := (yX0_gather, cX0_gather, 4, none)
theorem qX0_gather : mMeth mX0_gather 3 := ⟨(lw_use_in (u3 (List.mem_of_getElem? (i := 191) rfl)) rfl), (lw_use_in (u1 (List.mem_of_getElem? (i := 7) rfl)) rfl), ⟨by decide +kernel, by decide +kernel⟩, Nat.le_of_ble_eq_true rfl, by decide +kernel⟩
theorem vX0_gather : mVirt mX0_gather := ⟨(lw_use_in (u3 (List.mem_of_getElem? (i := 189) rfl)) rfl), (lw_use_in (u3 (List.mem_of_getElem? (i := 190) rfl)) rfl)⟩
def mX0_beginCall : mM := (yX0_beginCall, cX0_beginCall, 1, none)
theorem qX0_beginCall : mMeth mX0_beginCall 0 := ⟨(lw_use_in (u3 (List.mem_of_getElem? (i := 75) rfl)) rfl), (lw_use_in (u1 (List.mem_of_getElem? (i := 7) rfl)) rfl), ⟨by decide +kernel, by decide +kernel⟩, Nat.le_of_ble_eq_true rfl, by decide +kernel⟩
theorem vX0_beginCall : mVirt mX0_beginCall := ⟨(lw_use_in (u3 (List.mem_of_getElem? (i := 73) rfl)) rfl), (lw_use_in (u3 (List.mem_of_getElem? (i := 74) rfl)) rfl)⟩
def mX0_gatheredBy : mM := (yX0_gatheredBy, cX0_gatheredBy, 4, some FieldType.int)
theorem qX0_gatheredBy : mMeth mX0_gatheredBy 1 := ⟨(lw_use_in (u3 (List.mem_of_getElem? (i := 109) rfl)) rfl), (lw_use_in (u1 (List.mem_of_getElem? (i := 7) rfl)) rfl), ⟨by decide +kernel, by decide +kernel⟩, Nat.le_of_ble_eq_true rfl, by decide +kernel⟩
theorem vX0_gatheredBy : mVirt mX0_gatheredBy := ⟨(lw_use_in (u3 (List.mem_of_getElem? (i := 107) rfl)) rfl), (lw_use_in (u3 (List.mem_of_getElem? (i := 108) rfl)) rfl)⟩
def mX0_placeOf : mM := (yX0_placeOf, cX0_placeOf, 5, some FieldType.int)
theorem qX0_placeOf : mMeth mX0_placeOf 2 := ⟨(lw_use_in (u4 (List.mem_of_getElem? (i := 122) rfl)) rfl), (lw_use_in (u1 (List.mem_of_getElem? (i := 7) rfl)) rfl), ⟨by decide +kernel, by decide +kernel⟩, Nat.le_of_ble_eq_true rfl, by decide +kernel⟩
theorem vX0_placeOf : mVirt mX0_placeOf := ⟨(lw_use_in (u4 (List.mem_of_getElem? (i := 120) rfl)) rfl), (lw_use_in (u4 (List.mem_of_getElem? (i := 121) rfl)) rfl)⟩
def mX0_become : mM := (yX0_become, cX0_become, 2, none)
theorem qX0_become : mMeth mX0_become 1 := ⟨(lw_use_in (u4 (List.mem_of_getElem? (i := 113) rfl)) rfl), (lw_use_in (u1 (List.mem_of_getElem? (i := 7) rfl)) rfl), ⟨by decide +kernel, by decide +kernel⟩, Nat.le_of_ble_eq_true rfl, by decide +kernel⟩
theorem vX0_become : mVirt mX0_become := ⟨(lw_use_in (u4 (List.mem_of_getElem? (i := 111) rfl)) rfl), (lw_use_in (u4 (List.mem_of_getElem? (i := 112) rfl)) rfl)⟩
def mX1_init : mM := (yX1_init, cX1_init, 2, none)
theorem qX1_init : mMeth mX1_init 1 := ⟨(lw_use_in (u1 (List.mem_of_getElem? (i := 32) rfl)) rfl), (lw_use_in (u1 (List.mem_of_getElem? (i := 3) rfl)) rfl), ⟨by decide +kernel, by decide +kernel⟩, Nat.le_of_ble_eq_true rfl, by decide +kernel⟩
theorem iX1_init : Cond.instanceMethod yX1_init ∈ lw_use := (lw_use_in (u1 (List.mem_of_getElem? (i := 31) rfl)) rfl)
def mX1_has : mM := (yX1_has, cX1_has, 2, some FieldType.boolean)
theorem qX1_has : mMeth mX1_has 1 := ⟨(lw_use_in (u2 (List.mem_of_getElem? (i := 167) rfl)) rfl), (lw_use_in (u1 (List.mem_of_getElem? (i := 3) rfl)) rfl), ⟨by decide +kernel, by decide +kernel⟩, Nat.le_of_ble_eq_true rfl, by decide +kernel⟩
theorem vX1_has : mVirt mX1_has := ⟨(lw_use_in (u2 (List.mem_of_getElem? (i := 165) rfl)) rfl), (lw_use_in (u2 (List.mem_of_getElem? (i := 166) rfl)) rfl)⟩
def mX1_hasRange : mM := (yX1_hasRange, cX1_hasRange, 3, some FieldType.boolean)
theorem qX1_hasRange : mMeth mX1_hasRange 2 := ⟨(lw_use_in (u5 (List.mem_of_getElem? (i := 19) rfl)) rfl), (lw_use_in (u1 (List.mem_of_getElem? (i := 3) rfl)) rfl), ⟨by decide +kernel, by decide +kernel⟩, Nat.le_of_ble_eq_true rfl, by decide +kernel⟩
theorem vX1_hasRange : mVirt mX1_hasRange := ⟨(lw_use_in (u5 (List.mem_of_getElem? (i := 17) rfl)) rfl), (lw_use_in (u5 (List.mem_of_getElem? (i := 18) rfl)) rfl)⟩
def mX1_at : mM := (yX1_at, cX1_at, 2, some FieldType.int)
theorem qX1_at : mMeth mX1_at 1 := ⟨(lw_use_in (u2 (List.mem_of_getElem? (i := 171) rfl)) rfl), (lw_use_in (u1 (List.mem_of_getElem? (i := 3) rfl)) rfl), ⟨by decide +kernel, by decide +kernel⟩, Nat.le_of_ble_eq_true rfl, by decide +kernel⟩
theorem vX1_at : mVirt mX1_at := ⟨(lw_use_in (u2 (List.mem_of_getElem? (i := 169) rfl)) rfl), (lw_use_in (u2 (List.mem_of_getElem? (i := 170) rfl)) rfl)⟩
def mX1_put : mM := (yX1_put, cX1_put, 3, none)
theorem qX1_put : mMeth mX1_put 2 := ⟨(lw_use_in (u3 (List.mem_of_getElem? (i := 123) rfl)) rfl), (lw_use_in (u1 (List.mem_of_getElem? (i := 3) rfl)) rfl), ⟨by decide +kernel, by decide +kernel⟩, Nat.le_of_ble_eq_true rfl, by decide +kernel⟩
theorem vX1_put : mVirt mX1_put := ⟨(lw_use_in (u3 (List.mem_of_getElem? (i := 121) rfl)) rfl), (lw_use_in (u3 (List.mem_of_getElem? (i := 122) rfl)) rfl)⟩
def mX1_append : mM := (yX1_append, cX1_append, 2, some FieldType.boolean)
theorem qX1_append : mMeth mX1_append 1 := ⟨(lw_use_in (u2 (List.mem_of_getElem? (i := 103) rfl)) rfl), (lw_use_in (u1 (List.mem_of_getElem? (i := 3) rfl)) rfl), ⟨by decide +kernel, by decide +kernel⟩, Nat.le_of_ble_eq_true rfl, by decide +kernel⟩
theorem vX1_append : mVirt mX1_append := ⟨(lw_use_in (u2 (List.mem_of_getElem? (i := 101) rfl)) rfl), (lw_use_in (u2 (List.mem_of_getElem? (i := 102) rfl)) rfl)⟩
def mX1_drop : mM := (yX1_drop, cX1_drop, 4, none)
theorem qX1_drop : mMeth mX1_drop 1 := ⟨(lw_use_in (u3 (List.mem_of_getElem? (i := 150) rfl)) rfl), (lw_use_in (u1 (List.mem_of_getElem? (i := 3) rfl)) rfl), ⟨by decide +kernel, by decide +kernel⟩, Nat.le_of_ble_eq_true rfl, by decide +kernel⟩
theorem vX1_drop : mVirt mX1_drop := ⟨(lw_use_in (u3 (List.mem_of_getElem? (i := 148) rfl)) rfl), (lw_use_in (u3 (List.mem_of_getElem? (i := 149) rfl)) rfl)⟩
def mX1_becomeZeros : mM := (yX1_becomeZeros, cX1_becomeZeros, 3, none)
theorem qX1_becomeZeros : mMeth mX1_becomeZeros 1 := ⟨(lw_use_in (u2 (List.mem_of_getElem? (i := 4) rfl)) rfl), (lw_use_in (u1 (List.mem_of_getElem? (i := 3) rfl)) rfl), ⟨by decide +kernel, by decide +kernel⟩, Nat.le_of_ble_eq_true rfl, by decide +kernel⟩
theorem vX1_becomeZeros : mVirt mX1_becomeZeros := ⟨(lw_use_in (u2 (List.mem_of_getElem? (i := 2) rfl)) rfl), (lw_use_in (u2 (List.mem_of_getElem? (i := 3) rfl)) rfl)⟩
def mX1_become : mM := (yX1_become, cX1_become, 3, none)
theorem qX1_become : mMeth mX1_become 1 := ⟨(lw_use_in (u4 (List.mem_of_getElem? (i := 109) rfl)) rfl), (lw_use_in (u1 (List.mem_of_getElem? (i := 3) rfl)) rfl), ⟨by decide +kernel, by decide +kernel⟩, Nat.le_of_ble_eq_true rfl, by decide +kernel⟩
theorem vX1_become : mVirt mX1_become := ⟨(lw_use_in (u4 (List.mem_of_getElem? (i := 107) rfl)) rfl), (lw_use_in (u4 (List.mem_of_getElem? (i := 108) rfl)) rfl)⟩
def mX2_init : mM := (yX2_init, cX2_init, 1, none)
theorem qX2_init : mMeth mX2_init 0 := ⟨(lw_use_in (u1 (List.mem_of_getElem? (i := 26) rfl)) rfl), (lw_use_in (u1 (List.mem_of_getElem? (i := 2) rfl)) rfl), ⟨by decide +kernel, by decide +kernel⟩, Nat.le_of_ble_eq_true rfl, by decide +kernel⟩
theorem iX2_init : Cond.instanceMethod yX2_init ∈ lw_use := (lw_use_in (u1 (List.mem_of_getElem? (i := 25) rfl)) rfl)
def mX2_readThing : mM := (yX2_readThing, cX2_readThing, 2, some (FieldType.object "ScopeWarden$Step"))
theorem qX2_readThing : mMeth mX2_readThing 0 := ⟨(lw_use_in (u2 (List.mem_of_getElem? (i := 194) rfl)) rfl), (lw_use_in (u1 (List.mem_of_getElem? (i := 2) rfl)) rfl), ⟨by decide +kernel, by decide +kernel⟩, Nat.le_of_ble_eq_true rfl, by decide +kernel⟩
theorem vX2_readThing : mVirt mX2_readThing := ⟨(lw_use_in (u2 (List.mem_of_getElem? (i := 192) rfl)) rfl), (lw_use_in (u2 (List.mem_of_getElem? (i := 193) rfl)) rfl)⟩
def mX2_readTask : mM := (yX2_readTask, cX2_readTask, 2, some (FieldType.object "ScopeWarden$Step"))
theorem qX2_readTask : mMeth mX2_readTask 0 := ⟨(lw_use_in (u4 (List.mem_of_getElem? (i := 183) rfl)) rfl), (lw_use_in (u1 (List.mem_of_getElem? (i := 2) rfl)) rfl), ⟨by decide +kernel, by decide +kernel⟩, Nat.le_of_ble_eq_true rfl, by decide +kernel⟩
theorem vX2_readTask : mVirt mX2_readTask := ⟨(lw_use_in (u4 (List.mem_of_getElem? (i := 181) rfl)) rfl), (lw_use_in (u4 (List.mem_of_getElem? (i := 182) rfl)) rfl)⟩
def mX2_readWholeName : mM := (yX2_readWholeName, cX2_readWholeName, 3, some FieldType.long)
theorem qX2_readWholeName : mMeth mX2_readWholeName 0 := ⟨(lw_use_in (u4 (List.mem_of_getElem? (i := 32) rfl)) rfl), (lw_use_in (u1 (List.mem_of_getElem? (i := 2) rfl)) rfl), ⟨by decide +kernel, by decide +kernel⟩, Nat.le_of_ble_eq_true rfl, by decide +kernel⟩
theorem vX2_readWholeName : mVirt mX2_readWholeName := ⟨(lw_use_in (u4 (List.mem_of_getElem? (i := 30) rfl)) rfl), (lw_use_in (u4 (List.mem_of_getElem? (i := 31) rfl)) rfl)⟩
def mX2_begin : mM := (yX2_begin, cX2_begin, 1, none)
theorem qX2_begin : mMeth mX2_begin 0 := ⟨(lw_use_in (u2 (List.mem_of_getElem? (i := 198) rfl)) rfl), (lw_use_in (u1 (List.mem_of_getElem? (i := 2) rfl)) rfl), ⟨by decide +kernel, by decide +kernel⟩, Nat.le_of_ble_eq_true rfl, by decide +kernel⟩
theorem vX2_begin : mVirt mX2_begin := ⟨(lw_use_in (u2 (List.mem_of_getElem? (i := 197) rfl)) rfl), (lw_use_in (u0 (List.mem_of_getElem? (i := 6) rfl)) rfl)⟩
def mX2_here : mM := (yX2_here, cX2_here, 2, some FieldType.int)
theorem qX2_here : mMeth mX2_here 0 := ⟨(lw_use_in (u3 (List.mem_of_getElem? (i := 7) rfl)) rfl), (lw_use_in (u1 (List.mem_of_getElem? (i := 2) rfl)) rfl), ⟨by decide +kernel, by decide +kernel⟩, Nat.le_of_ble_eq_true rfl, by decide +kernel⟩
theorem vX2_here : mVirt mX2_here := ⟨(lw_use_in (u3 (List.mem_of_getElem? (i := 6) rfl)) rfl), (lw_use_in (u0 (List.mem_of_getElem? (i := 8) rfl)) rfl)⟩
def mX2_failAt : mM := (yX2_failAt, cX2_failAt, 2, none)
theorem qX2_failAt : mMeth mX2_failAt 1 := ⟨(lw_use_in (u3 (List.mem_of_getElem? (i := 14) rfl)) rfl), (lw_use_in (u1 (List.mem_of_getElem? (i := 2) rfl)) rfl), ⟨by decide +kernel, by decide +kernel⟩, Nat.le_of_ble_eq_true rfl, by decide +kernel⟩
theorem vX2_failAt : mVirt mX2_failAt := ⟨(lw_use_in (u3 (List.mem_of_getElem? (i := 13) rfl)) rfl), (lw_use_in (u0 (List.mem_of_getElem? (i := 9) rfl)) rfl)⟩
def mX2_expect : mM := (yX2_expect, cX2_expect, 2, none)
theorem qX2_expect : mMeth mX2_expect 1 := ⟨(lw_use_in (u3 (List.mem_of_getElem? (i := 18) rfl)) rfl), (lw_use_in (u1 (List.mem_of_getElem? (i := 2) rfl)) rfl), ⟨by decide +kernel, by decide +kernel⟩, Nat.le_of_ble_eq_true rfl, by decide +kernel⟩
theorem vX2_expect : mVirt mX2_expect := ⟨(lw_use_in (u3 (List.mem_of_getElem? (i := 17) rfl)) rfl), (lw_use_in (u0 (List.mem_of_getElem? (i := 10) rfl)) rfl)⟩
def mX2_readSteps : mM := (yX2_readSteps, cX2_readSteps, 6, some (FieldType.object "ScopeWarden$Step"))
theorem qX2_readSteps : mMeth mX2_readSteps 2 := ⟨(lw_use_in (u3 (List.mem_of_getElem? (i := 22) rfl)) rfl), (lw_use_in (u1 (List.mem_of_getElem? (i := 2) rfl)) rfl), ⟨by decide +kernel, by decide +kernel⟩, Nat.le_of_ble_eq_true rfl, by decide +kernel⟩
theorem vX2_readSteps : mVirt mX2_readSteps := ⟨(lw_use_in (u3 (List.mem_of_getElem? (i := 21) rfl)) rfl), (lw_use_in (u0 (List.mem_of_getElem? (i := 11) rfl)) rfl)⟩
def mX2_readStep : mM := (yX2_readStep, cX2_readStep, 5, some (FieldType.object "ScopeWarden$Step"))
theorem qX2_readStep : mMeth mX2_readStep 2 := ⟨(lw_use_in (u3 (List.mem_of_getElem? (i := 26) rfl)) rfl), (lw_use_in (u1 (List.mem_of_getElem? (i := 2) rfl)) rfl), ⟨by decide +kernel, by decide +kernel⟩, Nat.le_of_ble_eq_true rfl, by decide +kernel⟩
theorem vX2_readStep : mVirt mX2_readStep := ⟨(lw_use_in (u3 (List.mem_of_getElem? (i := 25) rfl)) rfl), (lw_use_in (u0 (List.mem_of_getElem? (i := 12) rfl)) rfl)⟩
def mX2_mayBegin : mM := (yX2_mayBegin, cX2_mayBegin, 4, some FieldType.boolean)
theorem qX2_mayBegin : mMeth mX2_mayBegin 3 := ⟨(lw_use_in (u3 (List.mem_of_getElem? (i := 30) rfl)) rfl), (lw_use_in (u1 (List.mem_of_getElem? (i := 2) rfl)) rfl), ⟨by decide +kernel, by decide +kernel⟩, Nat.le_of_ble_eq_true rfl, by decide +kernel⟩
theorem vX2_mayBegin : mVirt mX2_mayBegin := ⟨(lw_use_in (u3 (List.mem_of_getElem? (i := 29) rfl)) rfl), (lw_use_in (u0 (List.mem_of_getElem? (i := 13) rfl)) rfl)⟩
def mX2_readCloser : mM := (yX2_readCloser, cX2_readCloser, 3, some (FieldType.object "ScopeWarden$Step"))
theorem qX2_readCloser : mMeth mX2_readCloser 1 := ⟨(lw_use_in (u3 (List.mem_of_getElem? (i := 50) rfl)) rfl), (lw_use_in (u1 (List.mem_of_getElem? (i := 2) rfl)) rfl), ⟨by decide +kernel, by decide +kernel⟩, Nat.le_of_ble_eq_true rfl, by decide +kernel⟩
theorem vX2_readCloser : mVirt mX2_readCloser := ⟨(lw_use_in (u3 (List.mem_of_getElem? (i := 49) rfl)) rfl), (lw_use_in (u0 (List.mem_of_getElem? (i := 18) rfl)) rfl)⟩
def mX2_readName : mM := (yX2_readName, cX2_readName, 4, some FieldType.long)
theorem qX2_readName : mMeth mX2_readName 0 := ⟨(lw_use_in (u3 (List.mem_of_getElem? (i := 3) rfl)) rfl), (lw_use_in (u1 (List.mem_of_getElem? (i := 2) rfl)) rfl), ⟨by decide +kernel, by decide +kernel⟩, Nat.le_of_ble_eq_true rfl, by decide +kernel⟩
theorem vX2_readName : mVirt mX2_readName := ⟨(lw_use_in (u3 (List.mem_of_getElem? (i := 2) rfl)) rfl), (lw_use_in (u0 (List.mem_of_getElem? (i := 7) rfl)) rfl)⟩
def mX2_isLetter : mM := (yX2_isLetter, cX2_isLetter, 1, some FieldType.boolean)
theorem qX2_isLetter : mMeth mX2_isLetter 1 := ⟨(lw_use_in (u3 (List.mem_of_getElem? (i := 10) rfl)) rfl), (lw_use_in (u1 (List.mem_of_getElem? (i := 2) rfl)) rfl), ⟨by decide +kernel, by decide +kernel⟩, Nat.le_of_ble_eq_true rfl, by decide +kernel⟩
theorem sX2_isLetter : Cond.static yX2_isLetter ∈ lw_use := (lw_use_in (u3 (List.mem_of_getElem? (i := 9) rfl)) rfl)
def mX2_readFigure : mM := (yX2_readFigure, cX2_readFigure, 3, some FieldType.int)
theorem qX2_readFigure : mMeth mX2_readFigure 1 := ⟨(lw_use_in (u3 (List.mem_of_getElem? (i := 34) rfl)) rfl), (lw_use_in (u1 (List.mem_of_getElem? (i := 2) rfl)) rfl), ⟨by decide +kernel, by decide +kernel⟩, Nat.le_of_ble_eq_true rfl, by decide +kernel⟩
theorem vX2_readFigure : mVirt mX2_readFigure := ⟨(lw_use_in (u3 (List.mem_of_getElem? (i := 33) rfl)) rfl), (lw_use_in (u0 (List.mem_of_getElem? (i := 14) rfl)) rfl)⟩
def mX2_readFigures : mM := (yX2_readFigures, cX2_readFigures, 4, some FieldType.int)
theorem qX2_readFigures : mMeth mX2_readFigures 1 := ⟨(lw_use_in (u3 (List.mem_of_getElem? (i := 42) rfl)) rfl), (lw_use_in (u1 (List.mem_of_getElem? (i := 2) rfl)) rfl), ⟨by decide +kernel, by decide +kernel⟩, Nat.le_of_ble_eq_true rfl, by decide +kernel⟩
theorem vX2_readFigures : mVirt mX2_readFigures := ⟨(lw_use_in (u3 (List.mem_of_getElem? (i := 41) rfl)) rfl), (lw_use_in (u0 (List.mem_of_getElem? (i := 16) rfl)) rfl)⟩
def mX2_readValue : mM := (yX2_readValue, cX2_readValue, 3, some FieldType.int)
theorem qX2_readValue : mMeth mX2_readValue 0 := ⟨(lw_use_in (u3 (List.mem_of_getElem? (i := 38) rfl)) rfl), (lw_use_in (u1 (List.mem_of_getElem? (i := 2) rfl)) rfl), ⟨by decide +kernel, by decide +kernel⟩, Nat.le_of_ble_eq_true rfl, by decide +kernel⟩
theorem vX2_readValue : mVirt mX2_readValue := ⟨(lw_use_in (u3 (List.mem_of_getElem? (i := 37) rfl)) rfl), (lw_use_in (u0 (List.mem_of_getElem? (i := 15) rfl)) rfl)⟩
def mX2_readFaultNumber : mM := (yX2_readFaultNumber, cX2_readFaultNumber, 3, some FieldType.int)
theorem qX2_readFaultNumber : mMeth mX2_readFaultNumber 0 := ⟨(lw_use_in (u3 (List.mem_of_getElem? (i := 46) rfl)) rfl), (lw_use_in (u1 (List.mem_of_getElem? (i := 2) rfl)) rfl), ⟨by decide +kernel, by decide +kernel⟩, Nat.le_of_ble_eq_true rfl, by decide +kernel⟩
theorem vX2_readFaultNumber : mVirt mX2_readFaultNumber := ⟨(lw_use_in (u3 (List.mem_of_getElem? (i := 45) rfl)) rfl), (lw_use_in (u0 (List.mem_of_getElem? (i := 17) rfl)) rfl)⟩
def mX3_init : mM := (yX3_init, cX3_init, 1, none)
theorem qX3_init : mMeth mX3_init 0 := ⟨(lw_use_in (u1 (List.mem_of_getElem? (i := 84) rfl)) rfl), (lw_use_in (u1 (List.mem_of_getElem? (i := 5) rfl)) rfl), ⟨by decide +kernel, by decide +kernel⟩, Nat.le_of_ble_eq_true rfl, by decide +kernel⟩
theorem iX3_init : Cond.instanceMethod yX3_init ∈ lw_use := (lw_use_in (u1 (List.mem_of_getElem? (i := 83) rfl)) rfl)
def mX3_endInCall : mM := (yX3_endInCall, cX3_endInCall, 2, some FieldType.int)
theorem qX3_endInCall : mMeth mX3_endInCall 1 := ⟨(lw_use_in (u3 (List.mem_of_getElem? (i := 71) rfl)) rfl), (lw_use_in (u1 (List.mem_of_getElem? (i := 5) rfl)) rfl), ⟨by decide +kernel, by decide +kernel⟩, Nat.le_of_ble_eq_true rfl, by decide +kernel⟩
theorem vX3_endInCall : mVirt mX3_endInCall := ⟨(lw_use_in (u3 (List.mem_of_getElem? (i := 69) rfl)) rfl), (lw_use_in (u3 (List.mem_of_getElem? (i := 70) rfl)) rfl)⟩
def mX3_tickUpTo : mM := (yX3_tickUpTo, cX3_tickUpTo, 3, some FieldType.int)
theorem qX3_tickUpTo : mMeth mX3_tickUpTo 1 := ⟨(lw_use_in (u4 (List.mem_of_getElem? (i := 134) rfl)) rfl), (lw_use_in (u1 (List.mem_of_getElem? (i := 5) rfl)) rfl), ⟨by decide +kernel, by decide +kernel⟩, Nat.le_of_ble_eq_true rfl, by decide +kernel⟩
theorem vX3_tickUpTo : mVirt mX3_tickUpTo := ⟨(lw_use_in (u4 (List.mem_of_getElem? (i := 132) rfl)) rfl), (lw_use_in (u4 (List.mem_of_getElem? (i := 133) rfl)) rfl)⟩
def mX3_tickOnce : mM := (yX3_tickOnce, cX3_tickOnce, 2, some FieldType.int)
theorem qX3_tickOnce : mMeth mX3_tickOnce 0 := ⟨(lw_use_in (u4 (List.mem_of_getElem? (i := 197) rfl)) rfl), (lw_use_in (u1 (List.mem_of_getElem? (i := 5) rfl)) rfl), ⟨by decide +kernel, by decide +kernel⟩, Nat.le_of_ble_eq_true rfl, by decide +kernel⟩
theorem vX3_tickOnce : mVirt mX3_tickOnce := ⟨(lw_use_in (u4 (List.mem_of_getElem? (i := 195) rfl)) rfl), (lw_use_in (u4 (List.mem_of_getElem? (i := 196) rfl)) rfl)⟩
def mX3_beginTurn : mM := (yX3_beginTurn, cX3_beginTurn, 3, some FieldType.int)
theorem qX3_beginTurn : mMeth mX3_beginTurn 0 := ⟨(lw_use_in (u4 (List.mem_of_getElem? (i := 138) rfl)) rfl), (lw_use_in (u1 (List.mem_of_getElem? (i := 5) rfl)) rfl), ⟨by decide +kernel, by decide +kernel⟩, Nat.le_of_ble_eq_true rfl, by decide +kernel⟩
theorem vX3_beginTurn : mVirt mX3_beginTurn := ⟨(lw_use_in (u4 (List.mem_of_getElem? (i := 137) rfl)) rfl), (lw_use_in (u0 (List.mem_of_getElem? (i := 40) rfl)) rfl)⟩
def mX3_work : mM := (yX3_work, cX3_work, 3, none)
theorem qX3_work : mMeth mX3_work 0 := ⟨(lw_use_in (u3 (List.mem_of_getElem? (i := 86) rfl)) rfl), (lw_use_in (u1 (List.mem_of_getElem? (i := 5) rfl)) rfl), ⟨by decide +kernel, by decide +kernel⟩, Nat.le_of_ble_eq_true rfl, by decide +kernel⟩
theorem vX3_work : mVirt mX3_work := ⟨(lw_use_in (u3 (List.mem_of_getElem? (i := 85) rfl)) rfl), (lw_use_in (u0 (List.mem_of_getElem? (i := 20) rfl)) rfl)⟩
def mX3_leave : mM := (yX3_leave, cX3_leave, 1, none)
theorem qX3_leave : mMeth mX3_leave 0 := ⟨(lw_use_in (u3 (List.mem_of_getElem? (i := 97) rfl)) rfl), (lw_use_in (u1 (List.mem_of_getElem? (i := 5) rfl)) rfl), ⟨by decide +kernel, by decide +kernel⟩, Nat.le_of_ble_eq_true rfl, by decide +kernel⟩
theorem vX3_leave : mVirt mX3_leave := ⟨(lw_use_in (u3 (List.mem_of_getElem? (i := 96) rfl)) rfl), (lw_use_in (u0 (List.mem_of_getElem? (i := 22) rfl)) rfl)⟩
def mX3_beginToEnd : mM := (yX3_beginToEnd, cX3_beginToEnd, 3, none)
theorem qX3_beginToEnd : mMeth mX3_beginToEnd 1 := ⟨(lw_use_in (u3 (List.mem_of_getElem? (i := 79) rfl)) rfl), (lw_use_in (u1 (List.mem_of_getElem? (i := 5) rfl)) rfl), ⟨by decide +kernel, by decide +kernel⟩, Nat.le_of_ble_eq_true rfl, by decide +kernel⟩
theorem vX3_beginToEnd : mVirt mX3_beginToEnd := ⟨(lw_use_in (u3 (List.mem_of_getElem? (i := 78) rfl)) rfl), (lw_use_in (u0 (List.mem_of_getElem? (i := 19) rfl)) rfl)⟩
def mX3_goOnClosing : mM := (yX3_goOnClosing, cX3_goOnClosing, 5, none)
theorem qX3_goOnClosing : mMeth mX3_goOnClosing 1 := ⟨(lw_use_in (u3 (List.mem_of_getElem? (i := 187) rfl)) rfl), (lw_use_in (u1 (List.mem_of_getElem? (i := 5) rfl)) rfl), ⟨by decide +kernel, by decide +kernel⟩, Nat.le_of_ble_eq_true rfl, by decide +kernel⟩
theorem vX3_goOnClosing : mVirt mX3_goOnClosing := ⟨(lw_use_in (u3 (List.mem_of_getElem? (i := 186) rfl)) rfl), (lw_use_in (u0 (List.mem_of_getElem? (i := 35) rfl)) rfl)⟩
def mX3_goOnShutting : mM := (yX3_goOnShutting, cX3_goOnShutting, 4, none)
theorem qX3_goOnShutting : mMeth mX3_goOnShutting 1 := ⟨(lw_use_in (u3 (List.mem_of_getElem? (i := 168) rfl)) rfl), (lw_use_in (u1 (List.mem_of_getElem? (i := 5) rfl)) rfl), ⟨by decide +kernel, by decide +kernel⟩, Nat.le_of_ble_eq_true rfl, by decide +kernel⟩
theorem vX3_goOnShutting : mVirt mX3_goOnShutting := ⟨(lw_use_in (u3 (List.mem_of_getElem? (i := 167) rfl)) rfl), (lw_use_in (u0 (List.mem_of_getElem? (i := 32) rfl)) rfl)⟩
def mX3_goOnWithTask : mM := (yX3_goOnWithTask, cX3_goOnWithTask, 5, none)
theorem qX3_goOnWithTask : mMeth mX3_goOnWithTask 1 := ⟨(lw_use_in (u3 (List.mem_of_getElem? (i := 92) rfl)) rfl), (lw_use_in (u1 (List.mem_of_getElem? (i := 5) rfl)) rfl), ⟨by decide +kernel, by decide +kernel⟩, Nat.le_of_ble_eq_true rfl, by decide +kernel⟩
theorem vX3_goOnWithTask : mVirt mX3_goOnWithTask := ⟨(lw_use_in (u3 (List.mem_of_getElem? (i := 91) rfl)) rfl), (lw_use_in (u0 (List.mem_of_getElem? (i := 21) rfl)) rfl)⟩
def mX3_goOnShuttingScopesOf : mM := (yX3_goOnShuttingScopesOf, cX3_goOnShuttingScopesOf, 3, none)
theorem qX3_goOnShuttingScopesOf : mMeth mX3_goOnShuttingScopesOf 1 := ⟨(lw_use_in (u3 (List.mem_of_getElem? (i := 101) rfl)) rfl), (lw_use_in (u1 (List.mem_of_getElem? (i := 5) rfl)) rfl), ⟨by decide +kernel, by decide +kernel⟩, Nat.le_of_ble_eq_true rfl, by decide +kernel⟩
theorem vX3_goOnShuttingScopesOf : mVirt mX3_goOnShuttingScopesOf := ⟨(lw_use_in (u3 (List.mem_of_getElem? (i := 100) rfl)) rfl), (lw_use_in (u0 (List.mem_of_getElem? (i := 23) rfl)) rfl)⟩
def mX3_perform : mM := (yX3_perform, cX3_perform, 4, some FieldType.int)
theorem qX3_perform : mMeth mX3_perform 2 := ⟨(lw_use_in (u3 (List.mem_of_getElem? (i := 119) rfl)) rfl), (lw_use_in (u1 (List.mem_of_getElem? (i := 5) rfl)) rfl), ⟨by decide +kernel, by decide +kernel⟩, Nat.le_of_ble_eq_true rfl, by decide +kernel⟩
theorem vX3_perform : mVirt mX3_perform := ⟨(lw_use_in (u3 (List.mem_of_getElem? (i := 118) rfl)) rfl), (lw_use_in (u0 (List.mem_of_getElem? (i := 25) rfl)) rfl)⟩
def mX3_takeInto : mM := (yX3_takeInto, cX3_takeInto, 3, some FieldType.int)
theorem qX3_takeInto : mMeth mX3_takeInto 2 := ⟨(lw_use_in (u3 (List.mem_of_getElem? (i := 127) rfl)) rfl), (lw_use_in (u1 (List.mem_of_getElem? (i := 5) rfl)) rfl), ⟨by decide +kernel, by decide +kernel⟩, Nat.le_of_ble_eq_true rfl, by decide +kernel⟩
theorem vX3_takeInto : mVirt mX3_takeInto := ⟨(lw_use_in (u3 (List.mem_of_getElem? (i := 126) rfl)) rfl), (lw_use_in (u0 (List.mem_of_getElem? (i := 26) rfl)) rfl)⟩
def mX3_closeNamed : mM := (yX3_closeNamed, cX3_closeNamed, 4, some FieldType.int)
theorem qX3_closeNamed : mMeth mX3_closeNamed 1 := ⟨(lw_use_in (u3 (List.mem_of_getElem? (i := 138) rfl)) rfl), (lw_use_in (u1 (List.mem_of_getElem? (i := 5) rfl)) rfl), ⟨by decide +kernel, by decide +kernel⟩, Nat.le_of_ble_eq_true rfl, by decide +kernel⟩
theorem vX3_closeNamed : mVirt mX3_closeNamed := ⟨(lw_use_in (u3 (List.mem_of_getElem? (i := 137) rfl)) rfl), (lw_use_in (u0 (List.mem_of_getElem? (i := 27) rfl)) rfl)⟩
def mX3_moveNamed : mM := (yX3_moveNamed, cX3_moveNamed, 5, some FieldType.int)
theorem qX3_moveNamed : mMeth mX3_moveNamed 2 := ⟨(lw_use_in (u3 (List.mem_of_getElem? (i := 142) rfl)) rfl), (lw_use_in (u1 (List.mem_of_getElem? (i := 5) rfl)) rfl), ⟨by decide +kernel, by decide +kernel⟩, Nat.le_of_ble_eq_true rfl, by decide +kernel⟩
theorem vX3_moveNamed : mVirt mX3_moveNamed := ⟨(lw_use_in (u3 (List.mem_of_getElem? (i := 141) rfl)) rfl), (lw_use_in (u0 (List.mem_of_getElem? (i := 28) rfl)) rfl)⟩
def mX3_openInner : mM := (yX3_openInner, cX3_openInner, 2, some FieldType.int)
theorem qX3_openInner : mMeth mX3_openInner 0 := ⟨(lw_use_in (u3 (List.mem_of_getElem? (i := 158) rfl)) rfl), (lw_use_in (u1 (List.mem_of_getElem? (i := 5) rfl)) rfl), ⟨by decide +kernel, by decide +kernel⟩, Nat.le_of_ble_eq_true rfl, by decide +kernel⟩
theorem vX3_openInner : mVirt mX3_openInner := ⟨(lw_use_in (u3 (List.mem_of_getElem? (i := 157) rfl)) rfl), (lw_use_in (u0 (List.mem_of_getElem? (i := 30) rfl)) rfl)⟩
def mX3_shutInner : mM := (yX3_shutInner, cX3_shutInner, 3, some FieldType.int)
theorem qX3_shutInner : mMeth mX3_shutInner 0 := ⟨(lw_use_in (u3 (List.mem_of_getElem? (i := 164) rfl)) rfl), (lw_use_in (u1 (List.mem_of_getElem? (i := 5) rfl)) rfl), ⟨by decide +kernel, by decide +kernel⟩, Nat.le_of_ble_eq_true rfl, by decide +kernel⟩
theorem vX3_shutInner : mVirt mX3_shutInner := ⟨(lw_use_in (u3 (List.mem_of_getElem? (i := 163) rfl)) rfl), (lw_use_in (u0 (List.mem_of_getElem? (i := 31) rfl)) rfl)⟩
def mX3_askToCancel : mM := (yX3_askToCancel, cX3_askToCancel, 3, some FieldType.int)
theorem qX3_askToCancel : mMeth mX3_askToCancel 1 := ⟨(lw_use_in (u3 (List.mem_of_getElem? (i := 154) rfl)) rfl), (lw_use_in (u1 (List.mem_of_getElem? (i := 5) rfl)) rfl), ⟨by decide +kernel, by decide +kernel⟩, Nat.le_of_ble_eq_true rfl, by decide +kernel⟩
theorem vX3_askToCancel : mVirt mX3_askToCancel := ⟨(lw_use_in (u3 (List.mem_of_getElem? (i := 153) rfl)) rfl), (lw_use_in (u0 (List.mem_of_getElem? (i := 29) rfl)) rfl)⟩
def mX4_init : mM := (yX4_init, cX4_init, 1, none)
theorem qX4_init : mMeth mX4_init 0 := ⟨(lw_use_in (u1 (List.mem_of_getElem? (i := 164) rfl)) rfl), (lw_use_in (u1 (List.mem_of_getElem? (i := 9) rfl)) rfl), ⟨by decide +kernel, by decide +kernel⟩, Nat.le_of_ble_eq_true rfl, by decide +kernel⟩
theorem iX4_init : Cond.instanceMethod yX4_init ∈ lw_use := (lw_use_in (u1 (List.mem_of_getElem? (i := 163) rfl)) rfl)
def mX4_become : mM := (yX4_become, cX4_become, 2, none)
theorem qX4_become : mMeth mX4_become 1 := ⟨(lw_use_in (u4 (List.mem_of_getElem? (i := 97) rfl)) rfl), (lw_use_in (u1 (List.mem_of_getElem? (i := 9) rfl)) rfl), ⟨by decide +kernel, by decide +kernel⟩, Nat.le_of_ble_eq_true rfl, by decide +kernel⟩
theorem vX4_become : mVirt mX4_become := ⟨(lw_use_in (u4 (List.mem_of_getElem? (i := 95) rfl)) rfl), (lw_use_in (u4 (List.mem_of_getElem? (i := 96) rfl)) rfl)⟩
def mX5_init : mM := (yX5_init, cX5_init, 1, none)
theorem qX5_init : mMeth mX5_init 0 := ⟨(lw_use_in (u1 (List.mem_of_getElem? (i := 69) rfl)) rfl), (lw_use_in (u1 (List.mem_of_getElem? (i := 4) rfl)) rfl), ⟨by decide +kernel, by decide +kernel⟩, Nat.le_of_ble_eq_true rfl, by decide +kernel⟩
theorem iX5_init : Cond.instanceMethod yX5_init ∈ lw_use := (lw_use_in (u1 (List.mem_of_getElem? (i := 68) rfl)) rfl)
def mX5_write : mM := (yX5_write, cX5_write, 2, some FieldType.int)
theorem qX5_write : mMeth mX5_write 1 := ⟨(lw_use_in (u2 (List.mem_of_getElem? (i := 119) rfl)) rfl), (lw_use_in (u1 (List.mem_of_getElem? (i := 4) rfl)) rfl), ⟨by decide +kernel, by decide +kernel⟩, Nat.le_of_ble_eq_true rfl, by decide +kernel⟩
theorem vX5_write : mVirt mX5_write := ⟨(lw_use_in (u2 (List.mem_of_getElem? (i := 117) rfl)) rfl), (lw_use_in (u2 (List.mem_of_getElem? (i := 118) rfl)) rfl)⟩
def mX5_writeSteps : mM := (yX5_writeSteps, cX5_writeSteps, 4, none)
theorem qX5_writeSteps : mMeth mX5_writeSteps 2 := ⟨(lw_use_in (u2 (List.mem_of_getElem? (i := 123) rfl)) rfl), (lw_use_in (u1 (List.mem_of_getElem? (i := 4) rfl)) rfl), ⟨by decide +kernel, by decide +kernel⟩, Nat.le_of_ble_eq_true rfl, by decide +kernel⟩
theorem vX5_writeSteps : mVirt mX5_writeSteps := ⟨(lw_use_in (u2 (List.mem_of_getElem? (i := 122) rfl)) rfl), (lw_use_in (u0 (List.mem_of_getElem? (i := 0) rfl)) rfl)⟩
def mX5_writeStep : mM := (yX5_writeStep, cX5_writeStep, 3, none)
theorem qX5_writeStep : mMeth mX5_writeStep 2 := ⟨(lw_use_in (u2 (List.mem_of_getElem? (i := 127) rfl)) rfl), (lw_use_in (u1 (List.mem_of_getElem? (i := 4) rfl)) rfl), ⟨by decide +kernel, by decide +kernel⟩, Nat.le_of_ble_eq_true rfl, by decide +kernel⟩
theorem vX5_writeStep : mVirt mX5_writeStep := ⟨(lw_use_in (u2 (List.mem_of_getElem? (i := 126) rfl)) rfl), (lw_use_in (u0 (List.mem_of_getElem? (i := 1) rfl)) rfl)⟩
def mX5_writeSetting : mM := (yX5_writeSetting, cX5_writeSetting, 3, none)
theorem qX5_writeSetting : mMeth mX5_writeSetting 2 := ⟨(lw_use_in (u2 (List.mem_of_getElem? (i := 132) rfl)) rfl), (lw_use_in (u1 (List.mem_of_getElem? (i := 4) rfl)) rfl), ⟨by decide +kernel, by decide +kernel⟩, Nat.le_of_ble_eq_true rfl, by decide +kernel⟩
theorem vX5_writeSetting : mVirt mX5_writeSetting := ⟨(lw_use_in (u2 (List.mem_of_getElem? (i := 131) rfl)) rfl), (lw_use_in (u0 (List.mem_of_getElem? (i := 2) rfl)) rfl)⟩
def mX5_writeCloser : mM := (yX5_writeCloser, cX5_writeCloser, 3, none)
theorem qX5_writeCloser : mMeth mX5_writeCloser 2 := ⟨(lw_use_in (u2 (List.mem_of_getElem? (i := 151) rfl)) rfl), (lw_use_in (u1 (List.mem_of_getElem? (i := 4) rfl)) rfl), ⟨by decide +kernel, by decide +kernel⟩, Nat.le_of_ble_eq_true rfl, by decide +kernel⟩
theorem vX5_writeCloser : mVirt mX5_writeCloser := ⟨(lw_use_in (u2 (List.mem_of_getElem? (i := 150) rfl)) rfl), (lw_use_in (u0 (List.mem_of_getElem? (i := 5) rfl)) rfl)⟩
def mX5_writeName : mM := (yX5_writeName, cX5_writeName, 4, none)
theorem qX5_writeName : mMeth mX5_writeName 1 := ⟨(lw_use_in (u2 (List.mem_of_getElem? (i := 140) rfl)) rfl), (lw_use_in (u1 (List.mem_of_getElem? (i := 4) rfl)) rfl), ⟨by decide +kernel, by decide +kernel⟩, Nat.le_of_ble_eq_true rfl, by decide +kernel⟩
theorem vX5_writeName : mVirt mX5_writeName := ⟨(lw_use_in (u2 (List.mem_of_getElem? (i := 139) rfl)) rfl), (lw_use_in (u0 (List.mem_of_getElem? (i := 4) rfl)) rfl)⟩
def mX5_writeNumber : mM := (yX5_writeNumber, cX5_writeNumber, 4, none)
theorem qX5_writeNumber : mMeth mX5_writeNumber 1 := ⟨(lw_use_in (u2 (List.mem_of_getElem? (i := 136) rfl)) rfl), (lw_use_in (u1 (List.mem_of_getElem? (i := 4) rfl)) rfl), ⟨by decide +kernel, by decide +kernel⟩, Nat.le_of_ble_eq_true rfl, by decide +kernel⟩
theorem vX5_writeNumber : mVirt mX5_writeNumber := ⟨(lw_use_in (u2 (List.mem_of_getElem? (i := 135) rfl)) rfl), (lw_use_in (u0 (List.mem_of_getElem? (i := 3) rfl)) rfl)⟩
def mX6_init : mM := (yX6_init, cX6_init, 2, none)
theorem qX6_init : mMeth mX6_init 1 := ⟨(lw_use_in (u2 (List.mem_of_getElem? (i := 203) rfl)) rfl), (lw_use_in (u1 (List.mem_of_getElem? (i := 12) rfl)) rfl), ⟨by decide +kernel, by decide +kernel⟩, Nat.le_of_ble_eq_true rfl, by decide +kernel⟩
theorem iX6_init : Cond.instanceMethod yX6_init ∈ lw_use := (lw_use_in (u2 (List.mem_of_getElem? (i := 202) rfl)) rfl)
def mX7_init : mM := (yX7_init, cX7_init, 1, none)
theorem qX7_init : mMeth mX7_init 0 := ⟨(lw_use_in (u1 (List.mem_of_getElem? (i := 187) rfl)) rfl), (lw_use_in (u1 (List.mem_of_getElem? (i := 10) rfl)) rfl), ⟨by decide +kernel, by decide +kernel⟩, Nat.le_of_ble_eq_true rfl, by decide +kernel⟩
theorem iX7_init : Cond.instanceMethod yX7_init ∈ lw_use := (lw_use_in (u1 (List.mem_of_getElem? (i := 186) rfl)) rfl)
def mX7_start : mM := (yX7_start, cX7_start, 4, none)
theorem qX7_start : mMeth mX7_start 3 := ⟨(lw_use_in (u4 (List.mem_of_getElem? (i := 105) rfl)) rfl), (lw_use_in (u1 (List.mem_of_getElem? (i := 10) rfl)) rfl), ⟨by decide +kernel, by decide +kernel⟩, Nat.le_of_ble_eq_true rfl, by decide +kernel⟩
theorem vX7_start : mVirt mX7_start := ⟨(lw_use_in (u4 (List.mem_of_getElem? (i := 103) rfl)) rfl), (lw_use_in (u4 (List.mem_of_getElem? (i := 104) rfl)) rfl)⟩
def mX7_become : mM := (yX7_become, cX7_become, 2, none)
theorem qX7_become : mMeth mX7_become 1 := ⟨(lw_use_in (u4 (List.mem_of_getElem? (i := 101) rfl)) rfl), (lw_use_in (u1 (List.mem_of_getElem? (i := 10) rfl)) rfl), ⟨by decide +kernel, by decide +kernel⟩, Nat.le_of_ble_eq_true rfl, by decide +kernel⟩
theorem vX7_become : mVirt mX7_become := ⟨(lw_use_in (u4 (List.mem_of_getElem? (i := 99) rfl)) rfl), (lw_use_in (u4 (List.mem_of_getElem? (i := 100) rfl)) rfl)⟩
def mX7_comesAheadOf : mM := (yX7_comesAheadOf, cX7_comesAheadOf, 2, some FieldType.boolean)
theorem qX7_comesAheadOf : mMeth mX7_comesAheadOf 1 := ⟨(lw_use_in (u4 (List.mem_of_getElem? (i := 154) rfl)) rfl), (lw_use_in (u1 (List.mem_of_getElem? (i := 10) rfl)) rfl), ⟨by decide +kernel, by decide +kernel⟩, Nat.le_of_ble_eq_true rfl, by decide +kernel⟩
theorem vX7_comesAheadOf : mVirt mX7_comesAheadOf := ⟨(lw_use_in (u4 (List.mem_of_getElem? (i := 152) rfl)) rfl), (lw_use_in (u4 (List.mem_of_getElem? (i := 153) rfl)) rfl)⟩
def mX8_init : mM := (yX8_init, cX8_init, 1, none)
theorem qX8_init : mMeth mX8_init 0 := ⟨(lw_use_in (u1 (List.mem_of_getElem? (i := 126) rfl)) rfl), (lw_use_in (u1 (List.mem_of_getElem? (i := 8) rfl)) rfl), ⟨by decide +kernel, by decide +kernel⟩, Nat.le_of_ble_eq_true rfl, by decide +kernel⟩
theorem iX8_init : Cond.instanceMethod yX8_init ∈ lw_use := (lw_use_in (u1 (List.mem_of_getElem? (i := 125) rfl)) rfl)
def mX8_become : mM := (yX8_become, cX8_become, 2, none)
theorem qX8_become : mMeth mX8_become 1 := ⟨(lw_use_in (u4 (List.mem_of_getElem? (i := 93) rfl)) rfl), (lw_use_in (u1 (List.mem_of_getElem? (i := 8) rfl)) rfl), ⟨by decide +kernel, by decide +kernel⟩, Nat.le_of_ble_eq_true rfl, by decide +kernel⟩
theorem vX8_become : mVirt mX8_become := ⟨(lw_use_in (u4 (List.mem_of_getElem? (i := 91) rfl)) rfl), (lw_use_in (u4 (List.mem_of_getElem? (i := 92) rfl)) rfl)⟩
def mX9_init : mM := (yX9_init, cX9_init, 2, none)
theorem qX9_init : mMeth mX9_init 0 := ⟨(lw_use_in (u1 (List.mem_of_getElem? (i := 90) rfl)) rfl), (lw_use_in (u1 (List.mem_of_getElem? (i := 6) rfl)) rfl), ⟨by decide +kernel, by decide +kernel⟩, Nat.le_of_ble_eq_true rfl, by decide +kernel⟩
theorem iX9_init : Cond.instanceMethod yX9_init ∈ lw_use := (lw_use_in (u1 (List.mem_of_getElem? (i := 89) rfl)) rfl)
def mX9_become : mM := (yX9_become, cX9_become, 3, none)
theorem qX9_become : mMeth mX9_become 1 := ⟨(lw_use_in (u4 (List.mem_of_getElem? (i := 89) rfl)) rfl), (lw_use_in (u1 (List.mem_of_getElem? (i := 6) rfl)) rfl), ⟨by decide +kernel, by decide +kernel⟩, Nat.le_of_ble_eq_true rfl, by decide +kernel⟩
theorem vX9_become : mVirt mX9_become := ⟨(lw_use_in (u4 (List.mem_of_getElem? (i := 87) rfl)) rfl), (lw_use_in (u4 (List.mem_of_getElem? (i := 88) rfl)) rfl)⟩
def mX9_thingAt : mM := (yX9_thingAt, cX9_thingAt, 2, some (FieldType.object "ScopeWarden$Thing"))
theorem qX9_thingAt : mMeth mX9_thingAt 1 := ⟨(lw_use_in (u2 (List.mem_of_getElem? (i := 115) rfl)) rfl), (lw_use_in (u1 (List.mem_of_getElem? (i := 6) rfl)) rfl), ⟨by decide +kernel, by decide +kernel⟩, Nat.le_of_ble_eq_true rfl, by decide +kernel⟩
theorem vX9_thingAt : mVirt mX9_thingAt := ⟨(lw_use_in (u2 (List.mem_of_getElem? (i := 113) rfl)) rfl), (lw_use_in (u2 (List.mem_of_getElem? (i := 114) rfl)) rfl)⟩
def mX9_scopeAt : mM := (yX9_scopeAt, cX9_scopeAt, 2, some (FieldType.object "ScopeWarden$Scope"))
theorem qX9_scopeAt : mMeth mX9_scopeAt 1 := ⟨(lw_use_in (u2 (List.mem_of_getElem? (i := 8) rfl)) rfl), (lw_use_in (u1 (List.mem_of_getElem? (i := 6) rfl)) rfl), ⟨by decide +kernel, by decide +kernel⟩, Nat.le_of_ble_eq_true rfl, by decide +kernel⟩
theorem vX9_scopeAt : mVirt mX9_scopeAt := ⟨(lw_use_in (u2 (List.mem_of_getElem? (i := 6) rfl)) rfl), (lw_use_in (u2 (List.mem_of_getElem? (i := 7) rfl)) rfl)⟩
def mX9_taskAt : mM := (yX9_taskAt, cX9_taskAt, 2, some (FieldType.object "ScopeWarden$Task"))
theorem qX9_taskAt : mMeth mX9_taskAt 1 := ⟨(lw_use_in (u2 (List.mem_of_getElem? (i := 159) rfl)) rfl), (lw_use_in (u1 (List.mem_of_getElem? (i := 6) rfl)) rfl), ⟨by decide +kernel, by decide +kernel⟩, Nat.le_of_ble_eq_true rfl, by decide +kernel⟩
theorem vX9_taskAt : mVirt mX9_taskAt := ⟨(lw_use_in (u2 (List.mem_of_getElem? (i := 157) rfl)) rfl), (lw_use_in (u2 (List.mem_of_getElem? (i := 158) rfl)) rfl)⟩
def mX9_thingsAreFull : mM := (yX9_thingsAreFull, cX9_thingsAreFull, 1, some FieldType.boolean)
theorem qX9_thingsAreFull : mMeth mX9_thingsAreFull 0 := ⟨(lw_use_in (u3 (List.mem_of_getElem? (i := 54) rfl)) rfl), (lw_use_in (u1 (List.mem_of_getElem? (i := 6) rfl)) rfl), ⟨by decide +kernel, by decide +kernel⟩, Nat.le_of_ble_eq_true rfl, by decide +kernel⟩
theorem vX9_thingsAreFull : mVirt mX9_thingsAreFull := ⟨(lw_use_in (u3 (List.mem_of_getElem? (i := 52) rfl)) rfl), (lw_use_in (u3 (List.mem_of_getElem? (i := 53) rfl)) rfl)⟩
def mX9_scopesAreFull : mM := (yX9_scopesAreFull, cX9_scopesAreFull, 1, some FieldType.boolean)
theorem qX9_scopesAreFull : mMeth mX9_scopesAreFull 0 := ⟨(lw_use_in (u2 (List.mem_of_getElem? (i := 181) rfl)) rfl), (lw_use_in (u1 (List.mem_of_getElem? (i := 6) rfl)) rfl), ⟨by decide +kernel, by decide +kernel⟩, Nat.le_of_ble_eq_true rfl, by decide +kernel⟩
theorem vX9_scopesAreFull : mVirt mX9_scopesAreFull := ⟨(lw_use_in (u2 (List.mem_of_getElem? (i := 179) rfl)) rfl), (lw_use_in (u2 (List.mem_of_getElem? (i := 180) rfl)) rfl)⟩
def mX9_tasksAreFull : mM := (yX9_tasksAreFull, cX9_tasksAreFull, 1, some FieldType.boolean)
theorem qX9_tasksAreFull : mMeth mX9_tasksAreFull 0 := ⟨(lw_use_in (u4 (List.mem_of_getElem? (i := 179) rfl)) rfl), (lw_use_in (u1 (List.mem_of_getElem? (i := 6) rfl)) rfl), ⟨by decide +kernel, by decide +kernel⟩, Nat.le_of_ble_eq_true rfl, by decide +kernel⟩
theorem vX9_tasksAreFull : mVirt mX9_tasksAreFull := ⟨(lw_use_in (u4 (List.mem_of_getElem? (i := 177) rfl)) rfl), (lw_use_in (u4 (List.mem_of_getElem? (i := 178) rfl)) rfl)⟩
def mX9_addThing : mM := (yX9_addThing, cX9_addThing, 5, some FieldType.int)
theorem qX9_addThing : mMeth mX9_addThing 2 := ⟨(lw_use_in (u3 (List.mem_of_getElem? (i := 62) rfl)) rfl), (lw_use_in (u1 (List.mem_of_getElem? (i := 6) rfl)) rfl), ⟨by decide +kernel, by decide +kernel⟩, Nat.le_of_ble_eq_true rfl, by decide +kernel⟩
theorem vX9_addThing : mVirt mX9_addThing := ⟨(lw_use_in (u3 (List.mem_of_getElem? (i := 60) rfl)) rfl), (lw_use_in (u3 (List.mem_of_getElem? (i := 61) rfl)) rfl)⟩
def mX9_addScope : mM := (yX9_addScope, cX9_addScope, 5, some FieldType.int)
theorem qX9_addScope : mMeth mX9_addScope 2 := ⟨(lw_use_in (u2 (List.mem_of_getElem? (i := 185) rfl)) rfl), (lw_use_in (u1 (List.mem_of_getElem? (i := 6) rfl)) rfl), ⟨by decide +kernel, by decide +kernel⟩, Nat.le_of_ble_eq_true rfl, by decide +kernel⟩
theorem vX9_addScope : mVirt mX9_addScope := ⟨(lw_use_in (u2 (List.mem_of_getElem? (i := 183) rfl)) rfl), (lw_use_in (u2 (List.mem_of_getElem? (i := 184) rfl)) rfl)⟩
def mX9_addTask : mM := (yX9_addTask, cX9_addTask, 6, some FieldType.int)
theorem qX9_addTask : mMeth mX9_addTask 3 := ⟨(lw_use_in (u4 (List.mem_of_getElem? (i := 187) rfl)) rfl), (lw_use_in (u1 (List.mem_of_getElem? (i := 6) rfl)) rfl), ⟨by decide +kernel, by decide +kernel⟩, Nat.le_of_ble_eq_true rfl, by decide +kernel⟩
theorem vX9_addTask : mVirt mX9_addTask := ⟨(lw_use_in (u4 (List.mem_of_getElem? (i := 185) rfl)) rfl), (lw_use_in (u4 (List.mem_of_getElem? (i := 186) rfl)) rfl)⟩
def mX9_moveThing : mM := (yX9_moveThing, cX9_moveThing, 4, none)
theorem qX9_moveThing : mMeth mX9_moveThing 2 := ⟨(lw_use_in (u3 (List.mem_of_getElem? (i := 146) rfl)) rfl), (lw_use_in (u1 (List.mem_of_getElem? (i := 6) rfl)) rfl), ⟨by decide +kernel, by decide +kernel⟩, Nat.le_of_ble_eq_true rfl, by decide +kernel⟩
theorem vX9_moveThing : mVirt mX9_moveThing := ⟨(lw_use_in (u3 (List.mem_of_getElem? (i := 144) rfl)) rfl), (lw_use_in (u3 (List.mem_of_getElem? (i := 145) rfl)) rfl)⟩
def mX9_isOpen : mM := (yX9_isOpen, cX9_isOpen, 3, some FieldType.boolean)
theorem qX9_isOpen : mMeth mX9_isOpen 1 := ⟨(lw_use_in (u3 (List.mem_of_getElem? (i := 131) rfl)) rfl), (lw_use_in (u1 (List.mem_of_getElem? (i := 6) rfl)) rfl), ⟨by decide +kernel, by decide +kernel⟩, Nat.le_of_ble_eq_true rfl, by decide +kernel⟩
theorem vX9_isOpen : mVirt mX9_isOpen := ⟨(lw_use_in (u3 (List.mem_of_getElem? (i := 129) rfl)) rfl), (lw_use_in (u3 (List.mem_of_getElem? (i := 130) rfl)) rfl)⟩
def mX9_isHeld : mM := (yX9_isHeld, cX9_isHeld, 3, some FieldType.boolean)
theorem qX9_isHeld : mMeth mX9_isHeld 1 := ⟨(lw_use_in (u3 (List.mem_of_getElem? (i := 178) rfl)) rfl), (lw_use_in (u1 (List.mem_of_getElem? (i := 6) rfl)) rfl), ⟨by decide +kernel, by decide +kernel⟩, Nat.le_of_ble_eq_true rfl, by decide +kernel⟩
theorem vX9_isHeld : mVirt mX9_isHeld := ⟨(lw_use_in (u3 (List.mem_of_getElem? (i := 177) rfl)) rfl), (lw_use_in (u0 (List.mem_of_getElem? (i := 33) rfl)) rfl)⟩
def mX9_isReady : mM := (yX9_isReady, cX9_isReady, 3, some FieldType.boolean)
theorem qX9_isReady : mMeth mX9_isReady 1 := ⟨(lw_use_in (u4 (List.mem_of_getElem? (i := 146) rfl)) rfl), (lw_use_in (u1 (List.mem_of_getElem? (i := 6) rfl)) rfl), ⟨by decide +kernel, by decide +kernel⟩, Nat.le_of_ble_eq_true rfl, by decide +kernel⟩
theorem vX9_isReady : mVirt mX9_isReady := ⟨(lw_use_in (u4 (List.mem_of_getElem? (i := 144) rfl)) rfl), (lw_use_in (u4 (List.mem_of_getElem? (i := 145) rfl)) rfl)⟩
def mX9_ownerOf : mM := (yX9_ownerOf, cX9_ownerOf, 3, some FieldType.int)
theorem qX9_ownerOf : mMeth mX9_ownerOf 1 := ⟨(lw_use_in (u3 (List.mem_of_getElem? (i := 182) rfl)) rfl), (lw_use_in (u1 (List.mem_of_getElem? (i := 6) rfl)) rfl), ⟨by decide +kernel, by decide +kernel⟩, Nat.le_of_ble_eq_true rfl, by decide +kernel⟩
theorem vX9_ownerOf : mVirt mX9_ownerOf := ⟨(lw_use_in (u3 (List.mem_of_getElem? (i := 181) rfl)) rfl), (lw_use_in (u0 (List.mem_of_getElem? (i := 34) rfl)) rfl)⟩
def mX9_entriesOf : mM := (yX9_entriesOf, cX9_entriesOf, 4, some FieldType.int)
theorem qX9_entriesOf : mMeth mX9_entriesOf 1 := ⟨(lw_use_in (u3 (List.mem_of_getElem? (i := 205) rfl)) rfl), (lw_use_in (u1 (List.mem_of_getElem? (i := 6) rfl)) rfl), ⟨by decide +kernel, by decide +kernel⟩, Nat.le_of_ble_eq_true rfl, by decide +kernel⟩
theorem vX9_entriesOf : mVirt mX9_entriesOf := ⟨(lw_use_in (u3 (List.mem_of_getElem? (i := 203) rfl)) rfl), (lw_use_in (u3 (List.mem_of_getElem? (i := 204) rfl)) rfl)⟩
def mX9_entryAt : mM := (yX9_entryAt, cX9_entryAt, 5, some FieldType.int)
theorem qX9_entryAt : mMeth mX9_entryAt 2 := ⟨(lw_use_in (u4 (List.mem_of_getElem? (i := 12) rfl)) rfl), (lw_use_in (u1 (List.mem_of_getElem? (i := 6) rfl)) rfl), ⟨by decide +kernel, by decide +kernel⟩, Nat.le_of_ble_eq_true rfl, by decide +kernel⟩
theorem vX9_entryAt : mVirt mX9_entryAt := ⟨(lw_use_in (u4 (List.mem_of_getElem? (i := 10) rfl)) rfl), (lw_use_in (u4 (List.mem_of_getElem? (i := 11) rfl)) rfl)⟩
def mX9_lastToEnd : mM := (yX9_lastToEnd, cX9_lastToEnd, 5, some FieldType.int)
theorem qX9_lastToEnd : mMeth mX9_lastToEnd 1 := ⟨(lw_use_in (u3 (List.mem_of_getElem? (i := 172) rfl)) rfl), (lw_use_in (u1 (List.mem_of_getElem? (i := 6) rfl)) rfl), ⟨by decide +kernel, by decide +kernel⟩, Nat.le_of_ble_eq_true rfl, by decide +kernel⟩
theorem vX9_lastToEnd : mVirt mX9_lastToEnd := ⟨(lw_use_in (u3 (List.mem_of_getElem? (i := 170) rfl)) rfl), (lw_use_in (u3 (List.mem_of_getElem? (i := 171) rfl)) rfl)⟩
def mX9_planned : mM := (yX9_planned, cX9_planned, 7, some FieldType.int)
theorem qX9_planned : mMeth mX9_planned 2 := ⟨(lw_use_in (u4 (List.mem_of_getElem? (i := 72) rfl)) rfl), (lw_use_in (u1 (List.mem_of_getElem? (i := 6) rfl)) rfl), ⟨by decide +kernel, by decide +kernel⟩, Nat.le_of_ble_eq_true rfl, by decide +kernel⟩
theorem vX9_planned : mVirt mX9_planned := ⟨(lw_use_in (u4 (List.mem_of_getElem? (i := 70) rfl)) rfl), (lw_use_in (u4 (List.mem_of_getElem? (i := 71) rfl)) rfl)⟩
def mX9_placeOfEntry : mM := (yX9_placeOfEntry, cX9_placeOfEntry, 3, some FieldType.int)
theorem qX9_placeOfEntry : mMeth mX9_placeOfEntry 1 := ⟨(lw_use_in (u4 (List.mem_of_getElem? (i := 77) rfl)) rfl), (lw_use_in (u1 (List.mem_of_getElem? (i := 6) rfl)) rfl), ⟨by decide +kernel, by decide +kernel⟩, Nat.le_of_ble_eq_true rfl, by decide +kernel⟩
theorem vX9_placeOfEntry : mVirt mX9_placeOfEntry := ⟨(lw_use_in (u4 (List.mem_of_getElem? (i := 76) rfl)) rfl), (lw_use_in (u0 (List.mem_of_getElem? (i := 38) rfl)) rfl)⟩
def mX9_isWithin : mM := (yX9_isWithin, cX9_isWithin, 5, some FieldType.boolean)
theorem qX9_isWithin : mMeth mX9_isWithin 2 := ⟨(lw_use_in (u3 (List.mem_of_getElem? (i := 227) rfl)) rfl), (lw_use_in (u1 (List.mem_of_getElem? (i := 6) rfl)) rfl), ⟨by decide +kernel, by decide +kernel⟩, Nat.le_of_ble_eq_true rfl, by decide +kernel⟩
theorem vX9_isWithin : mVirt mX9_isWithin := ⟨(lw_use_in (u3 (List.mem_of_getElem? (i := 225) rfl)) rfl), (lw_use_in (u3 (List.mem_of_getElem? (i := 226) rfl)) rfl)⟩
def mX9_scopesAbove : mM := (yX9_scopesAbove, cX9_scopesAbove, 4, some FieldType.int)
theorem qX9_scopesAbove : mMeth mX9_scopesAbove 1 := ⟨(lw_use_in (u3 (List.mem_of_getElem? (i := 231) rfl)) rfl), (lw_use_in (u1 (List.mem_of_getElem? (i := 6) rfl)) rfl), ⟨by decide +kernel, by decide +kernel⟩, Nat.le_of_ble_eq_true rfl, by decide +kernel⟩
theorem vX9_scopesAbove : mVirt mX9_scopesAbove := ⟨(lw_use_in (u3 (List.mem_of_getElem? (i := 229) rfl)) rfl), (lw_use_in (u3 (List.mem_of_getElem? (i := 230) rfl)) rfl)⟩
def mX9_heldWithin : mM := (yX9_heldWithin, cX9_heldWithin, 4, some FieldType.int)
theorem qX9_heldWithin : mMeth mX9_heldWithin 1 := ⟨(lw_use_in (u3 (List.mem_of_getElem? (i := 223) rfl)) rfl), (lw_use_in (u1 (List.mem_of_getElem? (i := 6) rfl)) rfl), ⟨by decide +kernel, by decide +kernel⟩, Nat.le_of_ble_eq_true rfl, by decide +kernel⟩
theorem vX9_heldWithin : mVirt mX9_heldWithin := ⟨(lw_use_in (u3 (List.mem_of_getElem? (i := 221) rfl)) rfl), (lw_use_in (u3 (List.mem_of_getElem? (i := 222) rfl)) rfl)⟩
def mX9_youngestWithin : mM := (yX9_youngestWithin, cX9_youngestWithin, 3, some FieldType.int)
theorem qX9_youngestWithin : mMeth mX9_youngestWithin 1 := ⟨(lw_use_in (u4 (List.mem_of_getElem? (i := 4) rfl)) rfl), (lw_use_in (u1 (List.mem_of_getElem? (i := 6) rfl)) rfl), ⟨by decide +kernel, by decide +kernel⟩, Nat.le_of_ble_eq_true rfl, by decide +kernel⟩
theorem vX9_youngestWithin : mVirt mX9_youngestWithin := ⟨(lw_use_in (u4 (List.mem_of_getElem? (i := 2) rfl)) rfl), (lw_use_in (u4 (List.mem_of_getElem? (i := 3) rfl)) rfl)⟩
def mX9_openScopes : mM := (yX9_openScopes, cX9_openScopes, 3, some FieldType.int)
theorem qX9_openScopes : mMeth mX9_openScopes 0 := ⟨(lw_use_in (u4 (List.mem_of_getElem? (i := 230) rfl)) rfl), (lw_use_in (u1 (List.mem_of_getElem? (i := 6) rfl)) rfl), ⟨by decide +kernel, by decide +kernel⟩, Nat.le_of_ble_eq_true rfl, by decide +kernel⟩
theorem vX9_openScopes : mVirt mX9_openScopes := ⟨(lw_use_in (u4 (List.mem_of_getElem? (i := 228) rfl)) rfl), (lw_use_in (u4 (List.mem_of_getElem? (i := 229) rfl)) rfl)⟩
def mX9_nameOf : mM := (yX9_nameOf, cX9_nameOf, 3, some FieldType.long)
theorem qX9_nameOf : mMeth mX9_nameOf 1 := ⟨(lw_use_in (u4 (List.mem_of_getElem? (i := 44) rfl)) rfl), (lw_use_in (u1 (List.mem_of_getElem? (i := 6) rfl)) rfl), ⟨by decide +kernel, by decide +kernel⟩, Nat.le_of_ble_eq_true rfl, by decide +kernel⟩
theorem vX9_nameOf : mVirt mX9_nameOf := ⟨(lw_use_in (u4 (List.mem_of_getElem? (i := 43) rfl)) rfl), (lw_use_in (u0 (List.mem_of_getElem? (i := 36) rfl)) rfl)⟩
def mX9_heldWithName : mM := (yX9_heldWithName, cX9_heldWithName, 4, some FieldType.int)
theorem qX9_heldWithName : mMeth mX9_heldWithName 1 := ⟨(lw_use_in (u3 (List.mem_of_getElem? (i := 58) rfl)) rfl), (lw_use_in (u1 (List.mem_of_getElem? (i := 6) rfl)) rfl), ⟨by decide +kernel, by decide +kernel⟩, Nat.le_of_ble_eq_true rfl, by decide +kernel⟩
theorem vX9_heldWithName : mVirt mX9_heldWithName := ⟨(lw_use_in (u3 (List.mem_of_getElem? (i := 56) rfl)) rfl), (lw_use_in (u3 (List.mem_of_getElem? (i := 57) rfl)) rfl)⟩
def mX9_heldFrom : mM := (yX9_heldFrom, cX9_heldFrom, 4, some FieldType.int)
theorem qX9_heldFrom : mMeth mX9_heldFrom 1 := ⟨(lw_use_in (u4 (List.mem_of_getElem? (i := 40) rfl)) rfl), (lw_use_in (u1 (List.mem_of_getElem? (i := 6) rfl)) rfl), ⟨by decide +kernel, by decide +kernel⟩, Nat.le_of_ble_eq_true rfl, by decide +kernel⟩
theorem vX9_heldFrom : mVirt mX9_heldFrom := ⟨(lw_use_in (u4 (List.mem_of_getElem? (i := 38) rfl)) rfl), (lw_use_in (u4 (List.mem_of_getElem? (i := 39) rfl)) rfl)⟩
def mX9_isLess : mM := (yX9_isLess, cX9_isLess, 5, some FieldType.boolean)
theorem qX9_isLess : mMeth mX9_isLess 2 := ⟨(lw_use_in (u4 (List.mem_of_getElem? (i := 47) rfl)) rfl), (lw_use_in (u1 (List.mem_of_getElem? (i := 6) rfl)) rfl), ⟨by decide +kernel, by decide +kernel⟩, Nat.le_of_ble_eq_true rfl, by decide +kernel⟩
theorem sX9_isLess : Cond.static yX9_isLess ∈ lw_use := (lw_use_in (u4 (List.mem_of_getElem? (i := 46) rfl)) rfl)
def mX9_heldAtPlace : mM := (yX9_heldAtPlace, cX9_heldAtPlace, 3, some FieldType.int)
theorem qX9_heldAtPlace : mMeth mX9_heldAtPlace 1 := ⟨(lw_use_in (u4 (List.mem_of_getElem? (i := 60) rfl)) rfl), (lw_use_in (u1 (List.mem_of_getElem? (i := 6) rfl)) rfl), ⟨by decide +kernel, by decide +kernel⟩, Nat.le_of_ble_eq_true rfl, by decide +kernel⟩
theorem vX9_heldAtPlace : mVirt mX9_heldAtPlace := ⟨(lw_use_in (u4 (List.mem_of_getElem? (i := 58) rfl)) rfl), (lw_use_in (u4 (List.mem_of_getElem? (i := 59) rfl)) rfl)⟩
def mX9_heldAhead : mM := (yX9_heldAhead, cX9_heldAhead, 5, some FieldType.int)
theorem qX9_heldAhead : mMeth mX9_heldAhead 1 := ⟨(lw_use_in (u4 (List.mem_of_getElem? (i := 64) rfl)) rfl), (lw_use_in (u1 (List.mem_of_getElem? (i := 6) rfl)) rfl), ⟨by decide +kernel, by decide +kernel⟩, Nat.le_of_ble_eq_true rfl, by decide +kernel⟩
theorem vX9_heldAhead : mVirt mX9_heldAhead := ⟨(lw_use_in (u4 (List.mem_of_getElem? (i := 63) rfl)) rfl), (lw_use_in (u0 (List.mem_of_getElem? (i := 37) rfl)) rfl)⟩
def mX9_readyTasks : mM := (yX9_readyTasks, cX9_readyTasks, 3, some FieldType.int)
theorem qX9_readyTasks : mMeth mX9_readyTasks 0 := ⟨(lw_use_in (u4 (List.mem_of_getElem? (i := 234) rfl)) rfl), (lw_use_in (u1 (List.mem_of_getElem? (i := 6) rfl)) rfl), ⟨by decide +kernel, by decide +kernel⟩, Nat.le_of_ble_eq_true rfl, by decide +kernel⟩
theorem vX9_readyTasks : mVirt mX9_readyTasks := ⟨(lw_use_in (u4 (List.mem_of_getElem? (i := 232) rfl)) rfl), (lw_use_in (u4 (List.mem_of_getElem? (i := 233) rfl)) rfl)⟩
def mX9_readyAtPlace : mM := (yX9_readyAtPlace, cX9_readyAtPlace, 3, some FieldType.int)
theorem qX9_readyAtPlace : mMeth mX9_readyAtPlace 1 := ⟨(lw_use_in (u4 (List.mem_of_getElem? (i := 142) rfl)) rfl), (lw_use_in (u1 (List.mem_of_getElem? (i := 6) rfl)) rfl), ⟨by decide +kernel, by decide +kernel⟩, Nat.le_of_ble_eq_true rfl, by decide +kernel⟩
theorem vX9_readyAtPlace : mVirt mX9_readyAtPlace := ⟨(lw_use_in (u4 (List.mem_of_getElem? (i := 140) rfl)) rfl), (lw_use_in (u4 (List.mem_of_getElem? (i := 141) rfl)) rfl)⟩
def mX9_readyAhead : mM := (yX9_readyAhead, cX9_readyAhead, 6, some FieldType.int)
theorem qX9_readyAhead : mMeth mX9_readyAhead 1 := ⟨(lw_use_in (u4 (List.mem_of_getElem? (i := 150) rfl)) rfl), (lw_use_in (u1 (List.mem_of_getElem? (i := 6) rfl)) rfl), ⟨by decide +kernel, by decide +kernel⟩, Nat.le_of_ble_eq_true rfl, by decide +kernel⟩
theorem vX9_readyAhead : mVirt mX9_readyAhead := ⟨(lw_use_in (u4 (List.mem_of_getElem? (i := 149) rfl)) rfl), (lw_use_in (u0 (List.mem_of_getElem? (i := 41) rfl)) rfl)⟩
def mX9_scopesNotShutOf : mM := (yX9_scopesNotShutOf, cX9_scopesNotShutOf, 5, some FieldType.int)
theorem qX9_scopesNotShutOf : mMeth mX9_scopesNotShutOf 1 := ⟨(lw_use_in (u4 (List.mem_of_getElem? (i := 217) rfl)) rfl), (lw_use_in (u1 (List.mem_of_getElem? (i := 6) rfl)) rfl), ⟨by decide +kernel, by decide +kernel⟩, Nat.le_of_ble_eq_true rfl, by decide +kernel⟩
theorem vX9_scopesNotShutOf : mVirt mX9_scopesNotShutOf := ⟨(lw_use_in (u4 (List.mem_of_getElem? (i := 215) rfl)) rfl), (lw_use_in (u4 (List.mem_of_getElem? (i := 216) rfl)) rfl)⟩
def mX9_ownFault : mM := (yX9_ownFault, cX9_ownFault, 3, some FieldType.int)
theorem qX9_ownFault : mMeth mX9_ownFault 1 := ⟨(lw_use_in (u3 (List.mem_of_getElem? (i := 114) rfl)) rfl), (lw_use_in (u1 (List.mem_of_getElem? (i := 6) rfl)) rfl), ⟨by decide +kernel, by decide +kernel⟩, Nat.le_of_ble_eq_true rfl, by decide +kernel⟩
theorem vX9_ownFault : mVirt mX9_ownFault := ⟨(lw_use_in (u3 (List.mem_of_getElem? (i := 113) rfl)) rfl), (lw_use_in (u0 (List.mem_of_getElem? (i := 24) rfl)) rfl)⟩
def mX9_faultCount : mM := (yX9_faultCount, cX9_faultCount, 2, some FieldType.int)
theorem qX9_faultCount : mMeth mX9_faultCount 1 := ⟨(lw_use_in (u3 (List.mem_of_getElem? (i := 105) rfl)) rfl), (lw_use_in (u1 (List.mem_of_getElem? (i := 6) rfl)) rfl), ⟨by decide +kernel, by decide +kernel⟩, Nat.le_of_ble_eq_true rfl, by decide +kernel⟩
theorem vX9_faultCount : mVirt mX9_faultCount := ⟨(lw_use_in (u3 (List.mem_of_getElem? (i := 103) rfl)) rfl), (lw_use_in (u3 (List.mem_of_getElem? (i := 104) rfl)) rfl)⟩
def mX9_faultNumber : mM := (yX9_faultNumber, cX9_faultNumber, 4, some FieldType.int)
theorem qX9_faultNumber : mMeth mX9_faultNumber 2 := ⟨(lw_use_in (u4 (List.mem_of_getElem? (i := 118) rfl)) rfl), (lw_use_in (u1 (List.mem_of_getElem? (i := 6) rfl)) rfl), ⟨by decide +kernel, by decide +kernel⟩, Nat.le_of_ble_eq_true rfl, by decide +kernel⟩
theorem vX9_faultNumber : mVirt mX9_faultNumber := ⟨(lw_use_in (u4 (List.mem_of_getElem? (i := 116) rfl)) rfl), (lw_use_in (u4 (List.mem_of_getElem? (i := 117) rfl)) rfl)⟩
def mX9_faultThing : mM := (yX9_faultThing, cX9_faultThing, 5, some FieldType.int)
theorem qX9_faultThing : mMeth mX9_faultThing 2 := ⟨(lw_use_in (u4 (List.mem_of_getElem? (i := 126) rfl)) rfl), (lw_use_in (u1 (List.mem_of_getElem? (i := 6) rfl)) rfl), ⟨by decide +kernel, by decide +kernel⟩, Nat.le_of_ble_eq_true rfl, by decide +kernel⟩
theorem vX9_faultThing : mVirt mX9_faultThing := ⟨(lw_use_in (u4 (List.mem_of_getElem? (i := 124) rfl)) rfl), (lw_use_in (u4 (List.mem_of_getElem? (i := 125) rfl)) rfl)⟩
def mX10_init : mM := (yX10_init, cX10_init, 2, none)
theorem qX10_init : mMeth mX10_init 0 := ⟨(lw_use_in (u1 (List.mem_of_getElem? (i := 18) rfl)) rfl), (lw_use_in (u1 (List.mem_of_getElem? (i := 1) rfl)) rfl), ⟨by decide +kernel, by decide +kernel⟩, Nat.le_of_ble_eq_true rfl, by decide +kernel⟩
theorem iX10_init : Cond.instanceMethod yX10_init ∈ lw_use := (lw_use_in (u1 (List.mem_of_getElem? (i := 17) rfl)) rfl)
def mX10_feed : mM := (yX10_feed, cX10_feed, 2, some FieldType.int)
theorem qX10_feed : mMeth mX10_feed 1 := ⟨(lw_use_in (u2 (List.mem_of_getElem? (i := 99) rfl)) rfl), (lw_use_in (u1 (List.mem_of_getElem? (i := 1) rfl)) rfl), ⟨by decide +kernel, by decide +kernel⟩, Nat.le_of_ble_eq_true rfl, by decide +kernel⟩
theorem vX10_feed : mVirt mX10_feed := ⟨(lw_use_in (u2 (List.mem_of_getElem? (i := 97) rfl)) rfl), (lw_use_in (u2 (List.mem_of_getElem? (i := 98) rfl)) rfl)⟩
def mX10_clear : mM := (yX10_clear, cX10_clear, 2, some FieldType.int)
theorem qX10_clear : mMeth mX10_clear 0 := ⟨(lw_use_in (u2 (List.mem_of_getElem? (i := 107) rfl)) rfl), (lw_use_in (u1 (List.mem_of_getElem? (i := 1) rfl)) rfl), ⟨by decide +kernel, by decide +kernel⟩, Nat.le_of_ble_eq_true rfl, by decide +kernel⟩
theorem vX10_clear : mVirt mX10_clear := ⟨(lw_use_in (u2 (List.mem_of_getElem? (i := 105) rfl)) rfl), (lw_use_in (u2 (List.mem_of_getElem? (i := 106) rfl)) rfl)⟩
def mX10_spell : mM := (yX10_spell, cX10_spell, 3, some FieldType.int)
theorem qX10_spell : mMeth mX10_spell 1 := ⟨(lw_use_in (u2 (List.mem_of_getElem? (i := 111) rfl)) rfl), (lw_use_in (u1 (List.mem_of_getElem? (i := 1) rfl)) rfl), ⟨by decide +kernel, by decide +kernel⟩, Nat.le_of_ble_eq_true rfl, by decide +kernel⟩
theorem vX10_spell : mVirt mX10_spell := ⟨(lw_use_in (u2 (List.mem_of_getElem? (i := 109) rfl)) rfl), (lw_use_in (u2 (List.mem_of_getElem? (i := 110) rfl)) rfl)⟩
def mX10_spellTask : mM := (yX10_spellTask, cX10_spellTask, 3, some FieldType.int)
theorem qX10_spellTask : mMeth mX10_spellTask 1 := ⟨(lw_use_in (u2 (List.mem_of_getElem? (i := 155) rfl)) rfl), (lw_use_in (u1 (List.mem_of_getElem? (i := 1) rfl)) rfl), ⟨by decide +kernel, by decide +kernel⟩, Nat.le_of_ble_eq_true rfl, by decide +kernel⟩
theorem vX10_spellTask : mVirt mX10_spellTask := ⟨(lw_use_in (u2 (List.mem_of_getElem? (i := 153) rfl)) rfl), (lw_use_in (u2 (List.mem_of_getElem? (i := 154) rfl)) rfl)⟩
def mX10_paper : mM := (yX10_paper, cX10_paper, 2, some FieldType.int)
theorem qX10_paper : mMeth mX10_paper 1 := ⟨(lw_use_in (u2 (List.mem_of_getElem? (i := 163) rfl)) rfl), (lw_use_in (u1 (List.mem_of_getElem? (i := 1) rfl)) rfl), ⟨by decide +kernel, by decide +kernel⟩, Nat.le_of_ble_eq_true rfl, by decide +kernel⟩
theorem vX10_paper : mVirt mX10_paper := ⟨(lw_use_in (u2 (List.mem_of_getElem? (i := 161) rfl)) rfl), (lw_use_in (u2 (List.mem_of_getElem? (i := 162) rfl)) rfl)⟩
def mX10_open : mM := (yX10_open, cX10_open, 3, some FieldType.int)
theorem qX10_open : mMeth mX10_open 1 := ⟨(lw_use_in (u2 (List.mem_of_getElem? (i := 176) rfl)) rfl), (lw_use_in (u1 (List.mem_of_getElem? (i := 1) rfl)) rfl), ⟨by decide +kernel, by decide +kernel⟩, Nat.le_of_ble_eq_true rfl, by decide +kernel⟩
theorem vX10_open : mVirt mX10_open := ⟨(lw_use_in (u2 (List.mem_of_getElem? (i := 174) rfl)) rfl), (lw_use_in (u2 (List.mem_of_getElem? (i := 175) rfl)) rfl)⟩
def mX10_take : mM := (yX10_take, cX10_take, 4, some FieldType.int)
theorem qX10_take : mMeth mX10_take 1 := ⟨(lw_use_in (u2 (List.mem_of_getElem? (i := 190) rfl)) rfl), (lw_use_in (u1 (List.mem_of_getElem? (i := 1) rfl)) rfl), ⟨by decide +kernel, by decide +kernel⟩, Nat.le_of_ble_eq_true rfl, by decide +kernel⟩
theorem vX10_take : mVirt mX10_take := ⟨(lw_use_in (u2 (List.mem_of_getElem? (i := 188) rfl)) rfl), (lw_use_in (u2 (List.mem_of_getElem? (i := 189) rfl)) rfl)⟩
def mX10_close : mM := (yX10_close, cX10_close, 3, some FieldType.int)
theorem qX10_close : mMeth mX10_close 1 := ⟨(lw_use_in (u3 (List.mem_of_getElem? (i := 67) rfl)) rfl), (lw_use_in (u1 (List.mem_of_getElem? (i := 1) rfl)) rfl), ⟨by decide +kernel, by decide +kernel⟩, Nat.le_of_ble_eq_true rfl, by decide +kernel⟩
theorem vX10_close : mVirt mX10_close := ⟨(lw_use_in (u3 (List.mem_of_getElem? (i := 65) rfl)) rfl), (lw_use_in (u3 (List.mem_of_getElem? (i := 66) rfl)) rfl)⟩
def mX10_shut : mM := (yX10_shut, cX10_shut, 3, some FieldType.int)
theorem qX10_shut : mMeth mX10_shut 1 := ⟨(lw_use_in (u3 (List.mem_of_getElem? (i := 196) rfl)) rfl), (lw_use_in (u1 (List.mem_of_getElem? (i := 1) rfl)) rfl), ⟨by decide +kernel, by decide +kernel⟩, Nat.le_of_ble_eq_true rfl, by decide +kernel⟩
theorem vX10_shut : mVirt mX10_shut := ⟨(lw_use_in (u3 (List.mem_of_getElem? (i := 194) rfl)) rfl), (lw_use_in (u3 (List.mem_of_getElem? (i := 195) rfl)) rfl)⟩
def mX10_move : mM := (yX10_move, cX10_move, 5, some FieldType.int)
theorem qX10_move : mMeth mX10_move 2 := ⟨(lw_use_in (u3 (List.mem_of_getElem? (i := 200) rfl)) rfl), (lw_use_in (u1 (List.mem_of_getElem? (i := 1) rfl)) rfl), ⟨by decide +kernel, by decide +kernel⟩, Nat.le_of_ble_eq_true rfl, by decide +kernel⟩
theorem vX10_move : mVirt mX10_move := ⟨(lw_use_in (u3 (List.mem_of_getElem? (i := 198) rfl)) rfl), (lw_use_in (u3 (List.mem_of_getElem? (i := 199) rfl)) rfl)⟩
def mX10_count : mM := (yX10_count, cX10_count, 3, some FieldType.int)
theorem qX10_count : mMeth mX10_count 2 := ⟨(lw_use_in (u3 (List.mem_of_getElem? (i := 209) rfl)) rfl), (lw_use_in (u1 (List.mem_of_getElem? (i := 1) rfl)) rfl), ⟨by decide +kernel, by decide +kernel⟩, Nat.le_of_ble_eq_true rfl, by decide +kernel⟩
theorem vX10_count : mVirt mX10_count := ⟨(lw_use_in (u3 (List.mem_of_getElem? (i := 207) rfl)) rfl), (lw_use_in (u3 (List.mem_of_getElem? (i := 208) rfl)) rfl)⟩
def mX10_counter : mM := (yX10_counter, cX10_counter, 2, some FieldType.long)
theorem qX10_counter : mMeth mX10_counter 1 := ⟨(lw_use_in (u3 (List.mem_of_getElem? (i := 214) rfl)) rfl), (lw_use_in (u1 (List.mem_of_getElem? (i := 1) rfl)) rfl), ⟨by decide +kernel, by decide +kernel⟩, Nat.le_of_ble_eq_true rfl, by decide +kernel⟩
theorem vX10_counter : mVirt mX10_counter := ⟨(lw_use_in (u3 (List.mem_of_getElem? (i := 212) rfl)) rfl), (lw_use_in (u3 (List.mem_of_getElem? (i := 213) rfl)) rfl)⟩
def mX10_scope : mM := (yX10_scope, cX10_scope, 4, some FieldType.int)
theorem qX10_scope : mMeth mX10_scope 2 := ⟨(lw_use_in (u3 (List.mem_of_getElem? (i := 219) rfl)) rfl), (lw_use_in (u1 (List.mem_of_getElem? (i := 1) rfl)) rfl), ⟨by decide +kernel, by decide +kernel⟩, Nat.le_of_ble_eq_true rfl, by decide +kernel⟩
theorem vX10_scope : mVirt mX10_scope := ⟨(lw_use_in (u3 (List.mem_of_getElem? (i := 217) rfl)) rfl), (lw_use_in (u3 (List.mem_of_getElem? (i := 218) rfl)) rfl)⟩
def mX10_below : mM := (yX10_below, cX10_below, 3, some FieldType.int)
theorem qX10_below : mMeth mX10_below 2 := ⟨(lw_use_in (u3 (List.mem_of_getElem? (i := 235) rfl)) rfl), (lw_use_in (u1 (List.mem_of_getElem? (i := 1) rfl)) rfl), ⟨by decide +kernel, by decide +kernel⟩, Nat.le_of_ble_eq_true rfl, by decide +kernel⟩
theorem vX10_below : mVirt mX10_below := ⟨(lw_use_in (u3 (List.mem_of_getElem? (i := 233) rfl)) rfl), (lw_use_in (u3 (List.mem_of_getElem? (i := 234) rfl)) rfl)⟩
def mX10_youngest : mM := (yX10_youngest, cX10_youngest, 2, some FieldType.int)
theorem qX10_youngest : mMeth mX10_youngest 1 := ⟨(lw_use_in (u4 (List.mem_of_getElem? (i := 0) rfl)) rfl), (lw_use_in (u1 (List.mem_of_getElem? (i := 1) rfl)) rfl), ⟨by decide +kernel, by decide +kernel⟩, Nat.le_of_ble_eq_true rfl, by decide +kernel⟩
theorem vX10_youngest : mVirt mX10_youngest := ⟨(lw_use_in (u3 (List.mem_of_getElem? (i := 238) rfl)) rfl), (lw_use_in (u3 (List.mem_of_getElem? (i := 239) rfl)) rfl)⟩
def mX10_entry : mM := (yX10_entry, cX10_entry, 3, some FieldType.int)
theorem qX10_entry : mMeth mX10_entry 2 := ⟨(lw_use_in (u4 (List.mem_of_getElem? (i := 8) rfl)) rfl), (lw_use_in (u1 (List.mem_of_getElem? (i := 1) rfl)) rfl), ⟨by decide +kernel, by decide +kernel⟩, Nat.le_of_ble_eq_true rfl, by decide +kernel⟩
theorem vX10_entry : mVirt mX10_entry := ⟨(lw_use_in (u4 (List.mem_of_getElem? (i := 6) rfl)) rfl), (lw_use_in (u4 (List.mem_of_getElem? (i := 7) rfl)) rfl)⟩
def mX10_thing : mM := (yX10_thing, cX10_thing, 4, some FieldType.int)
theorem qX10_thing : mMeth mX10_thing 2 := ⟨(lw_use_in (u4 (List.mem_of_getElem? (i := 16) rfl)) rfl), (lw_use_in (u1 (List.mem_of_getElem? (i := 1) rfl)) rfl), ⟨by decide +kernel, by decide +kernel⟩, Nat.le_of_ble_eq_true rfl, by decide +kernel⟩
theorem vX10_thing : mVirt mX10_thing := ⟨(lw_use_in (u4 (List.mem_of_getElem? (i := 14) rfl)) rfl), (lw_use_in (u4 (List.mem_of_getElem? (i := 15) rfl)) rfl)⟩
def mX10_name : mM := (yX10_name, cX10_name, 5, some FieldType.int)
theorem qX10_name : mMeth mX10_name 2 := ⟨(lw_use_in (u4 (List.mem_of_getElem? (i := 23) rfl)) rfl), (lw_use_in (u1 (List.mem_of_getElem? (i := 1) rfl)) rfl), ⟨by decide +kernel, by decide +kernel⟩, Nat.le_of_ble_eq_true rfl, by decide +kernel⟩
theorem vX10_name : mVirt mX10_name := ⟨(lw_use_in (u4 (List.mem_of_getElem? (i := 21) rfl)) rfl), (lw_use_in (u4 (List.mem_of_getElem? (i := 22) rfl)) rfl)⟩
def mX10_find : mM := (yX10_find, cX10_find, 3, some FieldType.int)
theorem qX10_find : mMeth mX10_find 0 := ⟨(lw_use_in (u4 (List.mem_of_getElem? (i := 28) rfl)) rfl), (lw_use_in (u1 (List.mem_of_getElem? (i := 1) rfl)) rfl), ⟨by decide +kernel, by decide +kernel⟩, Nat.le_of_ble_eq_true rfl, by decide +kernel⟩
theorem vX10_find : mVirt mX10_find := ⟨(lw_use_in (u4 (List.mem_of_getElem? (i := 26) rfl)) rfl), (lw_use_in (u4 (List.mem_of_getElem? (i := 27) rfl)) rfl)⟩
def mX10_from : mM := (yX10_from, cX10_from, 2, some FieldType.int)
theorem qX10_from : mMeth mX10_from 0 := ⟨(lw_use_in (u4 (List.mem_of_getElem? (i := 36) rfl)) rfl), (lw_use_in (u1 (List.mem_of_getElem? (i := 1) rfl)) rfl), ⟨by decide +kernel, by decide +kernel⟩, Nat.le_of_ble_eq_true rfl, by decide +kernel⟩
theorem vX10_from : mVirt mX10_from := ⟨(lw_use_in (u4 (List.mem_of_getElem? (i := 34) rfl)) rfl), (lw_use_in (u4 (List.mem_of_getElem? (i := 35) rfl)) rfl)⟩
def mX10_rename : mM := (yX10_rename, cX10_rename, 5, some FieldType.int)
theorem qX10_rename : mMeth mX10_rename 1 := ⟨(lw_use_in (u4 (List.mem_of_getElem? (i := 52) rfl)) rfl), (lw_use_in (u1 (List.mem_of_getElem? (i := 1) rfl)) rfl), ⟨by decide +kernel, by decide +kernel⟩, Nat.le_of_ble_eq_true rfl, by decide +kernel⟩
theorem vX10_rename : mVirt mX10_rename := ⟨(lw_use_in (u4 (List.mem_of_getElem? (i := 50) rfl)) rfl), (lw_use_in (u4 (List.mem_of_getElem? (i := 51) rfl)) rfl)⟩
def mX10_byName : mM := (yX10_byName, cX10_byName, 2, some FieldType.int)
theorem qX10_byName : mMeth mX10_byName 1 := ⟨(lw_use_in (u4 (List.mem_of_getElem? (i := 56) rfl)) rfl), (lw_use_in (u1 (List.mem_of_getElem? (i := 1) rfl)) rfl), ⟨by decide +kernel, by decide +kernel⟩, Nat.le_of_ble_eq_true rfl, by decide +kernel⟩
theorem vX10_byName : mVirt mX10_byName := ⟨(lw_use_in (u4 (List.mem_of_getElem? (i := 54) rfl)) rfl), (lw_use_in (u4 (List.mem_of_getElem? (i := 55) rfl)) rfl)⟩
def mX10_plan : mM := (yX10_plan, cX10_plan, 3, some FieldType.int)
theorem qX10_plan : mMeth mX10_plan 2 := ⟨(lw_use_in (u4 (List.mem_of_getElem? (i := 68) rfl)) rfl), (lw_use_in (u1 (List.mem_of_getElem? (i := 1) rfl)) rfl), ⟨by decide +kernel, by decide +kernel⟩, Nat.le_of_ble_eq_true rfl, by decide +kernel⟩
theorem vX10_plan : mVirt mX10_plan := ⟨(lw_use_in (u4 (List.mem_of_getElem? (i := 66) rfl)) rfl), (lw_use_in (u4 (List.mem_of_getElem? (i := 67) rfl)) rfl)⟩
def mX10_would : mM := (yX10_would, cX10_would, 7, some FieldType.int)
theorem qX10_would : mMeth mX10_would 2 := ⟨(lw_use_in (u4 (List.mem_of_getElem? (i := 81) rfl)) rfl), (lw_use_in (u1 (List.mem_of_getElem? (i := 1) rfl)) rfl), ⟨by decide +kernel, by decide +kernel⟩, Nat.le_of_ble_eq_true rfl, by decide +kernel⟩
theorem vX10_would : mVirt mX10_would := ⟨(lw_use_in (u4 (List.mem_of_getElem? (i := 79) rfl)) rfl), (lw_use_in (u4 (List.mem_of_getElem? (i := 80) rfl)) rfl)⟩
def mX10_trial : mM := (yX10_trial, cX10_trial, 7, some FieldType.int)
theorem qX10_trial : mMeth mX10_trial 3 := ⟨(lw_use_in (u4 (List.mem_of_getElem? (i := 130) rfl)) rfl), (lw_use_in (u1 (List.mem_of_getElem? (i := 1) rfl)) rfl), ⟨by decide +kernel, by decide +kernel⟩, Nat.le_of_ble_eq_true rfl, by decide +kernel⟩
theorem vX10_trial : mVirt mX10_trial := ⟨(lw_use_in (u4 (List.mem_of_getElem? (i := 128) rfl)) rfl), (lw_use_in (u4 (List.mem_of_getElem? (i := 129) rfl)) rfl)⟩
def mX10_log : mM := (yX10_log, cX10_log, 2, some FieldType.int)
theorem qX10_log : mMeth mX10_log 1 := ⟨(lw_use_in (u4 (List.mem_of_getElem? (i := 159) rfl)) rfl), (lw_use_in (u1 (List.mem_of_getElem? (i := 1) rfl)) rfl), ⟨by decide +kernel, by decide +kernel⟩, Nat.le_of_ble_eq_true rfl, by decide +kernel⟩
theorem vX10_log : mVirt mX10_log := ⟨(lw_use_in (u4 (List.mem_of_getElem? (i := 157) rfl)) rfl), (lw_use_in (u4 (List.mem_of_getElem? (i := 158) rfl)) rfl)⟩
def mX10_fault : mM := (yX10_fault, cX10_fault, 4, some FieldType.int)
theorem qX10_fault : mMeth mX10_fault 3 := ⟨(lw_use_in (u4 (List.mem_of_getElem? (i := 163) rfl)) rfl), (lw_use_in (u1 (List.mem_of_getElem? (i := 1) rfl)) rfl), ⟨by decide +kernel, by decide +kernel⟩, Nat.le_of_ble_eq_true rfl, by decide +kernel⟩
theorem vX10_fault : mVirt mX10_fault := ⟨(lw_use_in (u4 (List.mem_of_getElem? (i := 161) rfl)) rfl), (lw_use_in (u4 (List.mem_of_getElem? (i := 162) rfl)) rfl)⟩
def mX10_faults : mM := (yX10_faults, cX10_faults, 2, some FieldType.int)
theorem qX10_faults : mMeth mX10_faults 1 := ⟨(lw_use_in (u4 (List.mem_of_getElem? (i := 167) rfl)) rfl), (lw_use_in (u1 (List.mem_of_getElem? (i := 1) rfl)) rfl), ⟨by decide +kernel, by decide +kernel⟩, Nat.le_of_ble_eq_true rfl, by decide +kernel⟩
theorem vX10_faults : mVirt mX10_faults := ⟨(lw_use_in (u4 (List.mem_of_getElem? (i := 165) rfl)) rfl), (lw_use_in (u4 (List.mem_of_getElem? (i := 166) rfl)) rfl)⟩
def mX10_task : mM := (yX10_task, cX10_task, 5, some FieldType.int)
theorem qX10_task : mMeth mX10_task 2 := ⟨(lw_use_in (u4 (List.mem_of_getElem? (i := 172) rfl)) rfl), (lw_use_in (u1 (List.mem_of_getElem? (i := 1) rfl)) rfl), ⟨by decide +kernel, by decide +kernel⟩, Nat.le_of_ble_eq_true rfl, by decide +kernel⟩
theorem vX10_task : mVirt mX10_task := ⟨(lw_use_in (u4 (List.mem_of_getElem? (i := 170) rfl)) rfl), (lw_use_in (u4 (List.mem_of_getElem? (i := 171) rfl)) rfl)⟩
def mX10_tick : mM := (yX10_tick, cX10_tick, 1, some FieldType.int)
theorem qX10_tick : mMeth mX10_tick 0 := ⟨(lw_use_in (u4 (List.mem_of_getElem? (i := 193) rfl)) rfl), (lw_use_in (u1 (List.mem_of_getElem? (i := 1) rfl)) rfl), ⟨by decide +kernel, by decide +kernel⟩, Nat.le_of_ble_eq_true rfl, by decide +kernel⟩
theorem vX10_tick : mVirt mX10_tick := ⟨(lw_use_in (u4 (List.mem_of_getElem? (i := 191) rfl)) rfl), (lw_use_in (u4 (List.mem_of_getElem? (i := 192) rfl)) rfl)⟩
def mX10_run : mM := (yX10_run, cX10_run, 2, some FieldType.int)
theorem qX10_run : mMeth mX10_run 1 := ⟨(lw_use_in (u4 (List.mem_of_getElem? (i := 201) rfl)) rfl), (lw_use_in (u1 (List.mem_of_getElem? (i := 1) rfl)) rfl), ⟨by decide +kernel, by decide +kernel⟩, Nat.le_of_ble_eq_true rfl, by decide +kernel⟩
theorem vX10_run : mVirt mX10_run := ⟨(lw_use_in (u4 (List.mem_of_getElem? (i := 199) rfl)) rfl), (lw_use_in (u4 (List.mem_of_getElem? (i := 200) rfl)) rfl)⟩
def mX10_cancel : mM := (yX10_cancel, cX10_cancel, 4, some FieldType.int)
theorem qX10_cancel : mMeth mX10_cancel 1 := ⟨(lw_use_in (u4 (List.mem_of_getElem? (i := 205) rfl)) rfl), (lw_use_in (u1 (List.mem_of_getElem? (i := 1) rfl)) rfl), ⟨by decide +kernel, by decide +kernel⟩, Nat.le_of_ble_eq_true rfl, by decide +kernel⟩
theorem vX10_cancel : mVirt mX10_cancel := ⟨(lw_use_in (u4 (List.mem_of_getElem? (i := 203) rfl)) rfl), (lw_use_in (u4 (List.mem_of_getElem? (i := 204) rfl)) rfl)⟩
def mX10_rank : mM := (yX10_rank, cX10_rank, 5, some FieldType.int)
theorem qX10_rank : mMeth mX10_rank 2 := ⟨(lw_use_in (u4 (List.mem_of_getElem? (i := 209) rfl)) rfl), (lw_use_in (u1 (List.mem_of_getElem? (i := 1) rfl)) rfl), ⟨by decide +kernel, by decide +kernel⟩, Nat.le_of_ble_eq_true rfl, by decide +kernel⟩
theorem vX10_rank : mVirt mX10_rank := ⟨(lw_use_in (u4 (List.mem_of_getElem? (i := 207) rfl)) rfl), (lw_use_in (u4 (List.mem_of_getElem? (i := 208) rfl)) rfl)⟩
def mX10_of : mM := (yX10_of, cX10_of, 4, some FieldType.int)
theorem qX10_of : mMeth mX10_of 2 := ⟨(lw_use_in (u4 (List.mem_of_getElem? (i := 213) rfl)) rfl), (lw_use_in (u1 (List.mem_of_getElem? (i := 1) rfl)) rfl), ⟨by decide +kernel, by decide +kernel⟩, Nat.le_of_ble_eq_true rfl, by decide +kernel⟩
theorem vX10_of : mVirt mX10_of := ⟨(lw_use_in (u4 (List.mem_of_getElem? (i := 211) rfl)) rfl), (lw_use_in (u4 (List.mem_of_getElem? (i := 212) rfl)) rfl)⟩
def mX10_ready : mM := (yX10_ready, cX10_ready, 2, some FieldType.int)
theorem qX10_ready : mMeth mX10_ready 1 := ⟨(lw_use_in (u4 (List.mem_of_getElem? (i := 221) rfl)) rfl), (lw_use_in (u1 (List.mem_of_getElem? (i := 1) rfl)) rfl), ⟨by decide +kernel, by decide +kernel⟩, Nat.le_of_ble_eq_true rfl, by decide +kernel⟩
theorem vX10_ready : mVirt mX10_ready := ⟨(lw_use_in (u4 (List.mem_of_getElem? (i := 219) rfl)) rfl), (lw_use_in (u4 (List.mem_of_getElem? (i := 220) rfl)) rfl)⟩
def mX10_told : mM := (yX10_told, cX10_told, 2, some FieldType.int)
theorem qX10_told : mMeth mX10_told 1 := ⟨(lw_use_in (u4 (List.mem_of_getElem? (i := 226) rfl)) rfl), (lw_use_in (u1 (List.mem_of_getElem? (i := 1) rfl)) rfl), ⟨by decide +kernel, by decide +kernel⟩, Nat.le_of_ble_eq_true rfl, by decide +kernel⟩
theorem vX10_told : mVirt mX10_told := ⟨(lw_use_in (u4 (List.mem_of_getElem? (i := 224) rfl)) rfl), (lw_use_in (u4 (List.mem_of_getElem? (i := 225) rfl)) rfl)⟩
def mX10_row : mM := (yX10_row, cX10_row, 4, some FieldType.int)
theorem qX10_row : mMeth mX10_row 2 := ⟨(lw_use_in (u4 (List.mem_of_getElem? (i := 238) rfl)) rfl), (lw_use_in (u1 (List.mem_of_getElem? (i := 1) rfl)) rfl), ⟨by decide +kernel, by decide +kernel⟩, Nat.le_of_ble_eq_true rfl, by decide +kernel⟩
theorem vX10_row : mVirt mX10_row := ⟨(lw_use_in (u4 (List.mem_of_getElem? (i := 236) rfl)) rfl), (lw_use_in (u4 (List.mem_of_getElem? (i := 237) rfl)) rfl)⟩
def mX10_set : mM := (yX10_set, cX10_set, 5, some FieldType.int)
theorem qX10_set : mMeth mX10_set 3 := ⟨(lw_use_in (u5 (List.mem_of_getElem? (i := 7) rfl)) rfl), (lw_use_in (u1 (List.mem_of_getElem? (i := 1) rfl)) rfl), ⟨by decide +kernel, by decide +kernel⟩, Nat.le_of_ble_eq_true rfl, by decide +kernel⟩
theorem vX10_set : mVirt mX10_set := ⟨(lw_use_in (u5 (List.mem_of_getElem? (i := 5) rfl)) rfl), (lw_use_in (u5 (List.mem_of_getElem? (i := 6) rfl)) rfl)⟩
def mX10_get : mM := (yX10_get, cX10_get, 4, some FieldType.long)
theorem qX10_get : mMeth mX10_get 2 := ⟨(lw_use_in (u5 (List.mem_of_getElem? (i := 11) rfl)) rfl), (lw_use_in (u1 (List.mem_of_getElem? (i := 1) rfl)) rfl), ⟨by decide +kernel, by decide +kernel⟩, Nat.le_of_ble_eq_true rfl, by decide +kernel⟩
theorem vX10_get : mVirt mX10_get := ⟨(lw_use_in (u5 (List.mem_of_getElem? (i := 9) rfl)) rfl), (lw_use_in (u5 (List.mem_of_getElem? (i := 10) rfl)) rfl)⟩
def mX10_copy : mM := (yX10_copy, cX10_copy, 8, some FieldType.int)
theorem qX10_copy : mMeth mX10_copy 5 := ⟨(lw_use_in (u5 (List.mem_of_getElem? (i := 15) rfl)) rfl), (lw_use_in (u1 (List.mem_of_getElem? (i := 1) rfl)) rfl), ⟨by decide +kernel, by decide +kernel⟩, Nat.le_of_ble_eq_true rfl, by decide +kernel⟩
theorem vX10_copy : mVirt mX10_copy := ⟨(lw_use_in (u5 (List.mem_of_getElem? (i := 13) rfl)) rfl), (lw_use_in (u5 (List.mem_of_getElem? (i := 14) rfl)) rfl)⟩
def mX10_lay : mM := (yX10_lay, cX10_lay, 5, some FieldType.int)
theorem qX10_lay : mMeth mX10_lay 2 := ⟨(lw_use_in (u5 (List.mem_of_getElem? (i := 26) rfl)) rfl), (lw_use_in (u1 (List.mem_of_getElem? (i := 1) rfl)) rfl), ⟨by decide +kernel, by decide +kernel⟩, Nat.le_of_ble_eq_true rfl, by decide +kernel⟩
theorem vX10_lay : mVirt mX10_lay := ⟨(lw_use_in (u5 (List.mem_of_getElem? (i := 24) rfl)) rfl), (lw_use_in (u5 (List.mem_of_getElem? (i := 25) rfl)) rfl)⟩
def mX10_judge : mM := (yX10_judge, cX10_judge, 5, some FieldType.int)
theorem qX10_judge : mMeth mX10_judge 2 := ⟨(lw_use_in (u5 (List.mem_of_getElem? (i := 30) rfl)) rfl), (lw_use_in (u1 (List.mem_of_getElem? (i := 1) rfl)) rfl), ⟨by decide +kernel, by decide +kernel⟩, Nat.le_of_ble_eq_true rfl, by decide +kernel⟩
theorem vX10_judge : mVirt mX10_judge := ⟨(lw_use_in (u5 (List.mem_of_getElem? (i := 28) rfl)) rfl), (lw_use_in (u5 (List.mem_of_getElem? (i := 29) rfl)) rfl)⟩
def mX10_image : mM := (yX10_image, cX10_image, 1, some FieldType.int)
theorem qX10_image : mMeth mX10_image 0 := ⟨(lw_use_in (u5 (List.mem_of_getElem? (i := 34) rfl)) rfl), (lw_use_in (u1 (List.mem_of_getElem? (i := 1) rfl)) rfl), ⟨by decide +kernel, by decide +kernel⟩, Nat.le_of_ble_eq_true rfl, by decide +kernel⟩
theorem vX10_image : mVirt mX10_image := ⟨(lw_use_in (u5 (List.mem_of_getElem? (i := 32) rfl)) rfl), (lw_use_in (u5 (List.mem_of_getElem? (i := 33) rfl)) rfl)⟩
def mX10_undo : mM := (yX10_undo, cX10_undo, 1, some FieldType.int)
theorem qX10_undo : mMeth mX10_undo 0 := ⟨(lw_use_in (u5 (List.mem_of_getElem? (i := 40) rfl)) rfl), (lw_use_in (u1 (List.mem_of_getElem? (i := 1) rfl)) rfl), ⟨by decide +kernel, by decide +kernel⟩, Nat.le_of_ble_eq_true rfl, by decide +kernel⟩
theorem vX10_undo : mVirt mX10_undo := ⟨(lw_use_in (u5 (List.mem_of_getElem? (i := 38) rfl)) rfl), (lw_use_in (u5 (List.mem_of_getElem? (i := 39) rfl)) rfl)⟩
def mX10_thinkerOfNow : mM := (yX10_thinkerOfNow, cX10_thinkerOfNow, 1, some (FieldType.object "ScopeWarden$Runner"))
theorem qX10_thinkerOfNow : mMeth mX10_thinkerOfNow 0 := ⟨(lw_use_in (u4 (List.mem_of_getElem? (i := 85) rfl)) rfl), (lw_use_in (u1 (List.mem_of_getElem? (i := 1) rfl)) rfl), ⟨by decide +kernel, by decide +kernel⟩, Nat.le_of_ble_eq_true rfl, by decide +kernel⟩
theorem vX10_thinkerOfNow : mVirt mX10_thinkerOfNow := ⟨(lw_use_in (u4 (List.mem_of_getElem? (i := 84) rfl)) rfl), (lw_use_in (u0 (List.mem_of_getElem? (i := 39) rfl)) rfl)⟩
def mX10_rowAt : mM := (yX10_rowAt, cX10_rowAt, 2, some (FieldType.object "ScopeWarden$Ints"))
theorem qX10_rowAt : mMeth mX10_rowAt 1 := ⟨(lw_use_in (u5 (List.mem_of_getElem? (i := 2) rfl)) rfl), (lw_use_in (u1 (List.mem_of_getElem? (i := 1) rfl)) rfl), ⟨by decide +kernel, by decide +kernel⟩, Nat.le_of_ble_eq_true rfl, by decide +kernel⟩
theorem vX10_rowAt : mVirt mX10_rowAt := ⟨(lw_use_in (u5 (List.mem_of_getElem? (i := 1) rfl)) rfl), (lw_use_in (u0 (List.mem_of_getElem? (i := 42) rfl)) rfl)⟩
def mX10_mayBePriority : mM := (yX10_mayBePriority, cX10_mayBePriority, 1, some FieldType.boolean)
theorem qX10_mayBePriority : mMeth mX10_mayBePriority 1 := ⟨(lw_use_in (u4 (List.mem_of_getElem? (i := 175) rfl)) rfl), (lw_use_in (u1 (List.mem_of_getElem? (i := 1) rfl)) rfl), ⟨by decide +kernel, by decide +kernel⟩, Nat.le_of_ble_eq_true rfl, by decide +kernel⟩
theorem sX10_mayBePriority : Cond.static yX10_mayBePriority ∈ lw_use := (lw_use_in (u4 (List.mem_of_getElem? (i := 174) rfl)) rfl)
def mX10_stepsFrom : mM := (yX10_stepsFrom, cX10_stepsFrom, 3, some FieldType.int)
theorem qX10_stepsFrom : mMeth mX10_stepsFrom 1 := ⟨(lw_use_in (u4 (List.mem_of_getElem? (i := 19) rfl)) rfl), (lw_use_in (u1 (List.mem_of_getElem? (i := 1) rfl)) rfl), ⟨by decide +kernel, by decide +kernel⟩, Nat.le_of_ble_eq_true rfl, by decide +kernel⟩
theorem sX10_stepsFrom : Cond.static yX10_stepsFrom ∈ lw_use := (lw_use_in (u4 (List.mem_of_getElem? (i := 18) rfl)) rfl)
def mX10_letterOf : mM := (yX10_letterOf, cX10_letterOf, 4, some FieldType.int)
theorem qX10_letterOf : mMeth mX10_letterOf 2 := ⟨(lw_use_in (u2 (List.mem_of_getElem? (i := 146) rfl)) rfl), (lw_use_in (u1 (List.mem_of_getElem? (i := 1) rfl)) rfl), ⟨by decide +kernel, by decide +kernel⟩, Nat.le_of_ble_eq_true rfl, by decide +kernel⟩
theorem sX10_letterOf : Cond.static yX10_letterOf ∈ lw_use := (lw_use_in (u2 (List.mem_of_getElem? (i := 145) rfl)) rfl)
def mX10_lettersOf : mM := (yX10_lettersOf, cX10_lettersOf, 3, some FieldType.int)
theorem qX10_lettersOf : mMeth mX10_lettersOf 1 := ⟨(lw_use_in (u2 (List.mem_of_getElem? (i := 143) rfl)) rfl), (lw_use_in (u1 (List.mem_of_getElem? (i := 1) rfl)) rfl), ⟨by decide +kernel, by decide +kernel⟩, Nat.le_of_ble_eq_true rfl, by decide +kernel⟩
theorem sX10_lettersOf : Cond.static yX10_lettersOf ∈ lw_use := (lw_use_in (u2 (List.mem_of_getElem? (i := 142) rfl)) rfl)
def mX11_init : mM := (yX11_init, cX11_init, 1, none)
theorem qX11_init : mMeth mX11_init 0 := ⟨(lw_use_in (u5 (List.mem_of_getElem? (i := 45) rfl)) rfl), (lw_use_in (u1 (List.mem_of_getElem? (i := 11) rfl)) rfl), ⟨by decide +kernel, by decide +kernel⟩, Nat.le_of_ble_eq_true rfl, by decide +kernel⟩
theorem iX11_init : Cond.instanceMethod yX11_init ∈ lw_use := (lw_use_in (u5 (List.mem_of_getElem? (i := 44) rfl)) rfl)
def mX11_isIn : mM := (yX11_isIn, cX11_isIn, 3, some FieldType.boolean)
theorem qX11_isIn : mMeth mX11_isIn 3 := ⟨(lw_use_in (u5 (List.mem_of_getElem? (i := 120) rfl)) rfl), (lw_use_in (u1 (List.mem_of_getElem? (i := 11) rfl)) rfl), ⟨by decide +kernel, by decide +kernel⟩, Nat.le_of_ble_eq_true rfl, by decide +kernel⟩
theorem sX11_isIn : Cond.static yX11_isIn ∈ lw_use := (lw_use_in (u5 (List.mem_of_getElem? (i := 119) rfl)) rfl)
def mX11_ofScope : mM := (yX11_ofScope, cX11_ofScope, 2, some FieldType.int)
theorem qX11_ofScope : mMeth mX11_ofScope 2 := ⟨(lw_use_in (u5 (List.mem_of_getElem? (i := 49) rfl)) rfl), (lw_use_in (u1 (List.mem_of_getElem? (i := 11) rfl)) rfl), ⟨by decide +kernel, by decide +kernel⟩, Nat.le_of_ble_eq_true rfl, by decide +kernel⟩
theorem sX11_ofScope : Cond.static yX11_ofScope ∈ lw_use := (lw_use_in (u5 (List.mem_of_getElem? (i := 48) rfl)) rfl)
def mX11_ofThing : mM := (yX11_ofThing, cX11_ofThing, 3, some FieldType.int)
theorem qX11_ofThing : mMeth mX11_ofThing 3 := ⟨(lw_use_in (u5 (List.mem_of_getElem? (i := 178) rfl)) rfl), (lw_use_in (u1 (List.mem_of_getElem? (i := 11) rfl)) rfl), ⟨by decide +kernel, by decide +kernel⟩, Nat.le_of_ble_eq_true rfl, by decide +kernel⟩
theorem sX11_ofThing : Cond.static yX11_ofThing ∈ lw_use := (lw_use_in (u5 (List.mem_of_getElem? (i := 177) rfl)) rfl)
def mX11_ofTask : mM := (yX11_ofTask, cX11_ofTask, 3, some FieldType.int)
theorem qX11_ofTask : mMeth mX11_ofTask 3 := ⟨(lw_use_in (u5 (List.mem_of_getElem? (i := 139) rfl)) rfl), (lw_use_in (u1 (List.mem_of_getElem? (i := 11) rfl)) rfl), ⟨by decide +kernel, by decide +kernel⟩, Nat.le_of_ble_eq_true rfl, by decide +kernel⟩
theorem sX11_ofTask : Cond.static yX11_ofTask ∈ lw_use := (lw_use_in (u5 (List.mem_of_getElem? (i := 138) rfl)) rfl)
def mX11_isScope : mM := (yX11_isScope, cX11_isScope, 2, some FieldType.boolean)
theorem qX11_isScope : mMeth mX11_isScope 1 := ⟨(lw_use_in (u5 (List.mem_of_getElem? (i := 159) rfl)) rfl), (lw_use_in (u1 (List.mem_of_getElem? (i := 11) rfl)) rfl), ⟨by decide +kernel, by decide +kernel⟩, Nat.le_of_ble_eq_true rfl, by decide +kernel⟩
theorem vX11_isScope : mVirt mX11_isScope := ⟨(lw_use_in (u5 (List.mem_of_getElem? (i := 158) rfl)) rfl), (lw_use_in (u0 (List.mem_of_getElem? (i := 49) rfl)) rfl)⟩
def mX11_isThing : mM := (yX11_isThing, cX11_isThing, 2, some FieldType.boolean)
theorem qX11_isThing : mMeth mX11_isThing 1 := ⟨(lw_use_in (u6 (List.mem_of_getElem? (i := 128) rfl)) rfl), (lw_use_in (u1 (List.mem_of_getElem? (i := 11) rfl)) rfl), ⟨by decide +kernel, by decide +kernel⟩, Nat.le_of_ble_eq_true rfl, by decide +kernel⟩
theorem vX11_isThing : mVirt mX11_isThing := ⟨(lw_use_in (u6 (List.mem_of_getElem? (i := 127) rfl)) rfl), (lw_use_in (u0 (List.mem_of_getElem? (i := 89) rfl)) rfl)⟩
def mX11_isTask : mM := (yX11_isTask, cX11_isTask, 2, some FieldType.boolean)
theorem qX11_isTask : mMeth mX11_isTask 1 := ⟨(lw_use_in (u5 (List.mem_of_getElem? (i := 226) rfl)) rfl), (lw_use_in (u1 (List.mem_of_getElem? (i := 11) rfl)) rfl), ⟨by decide +kernel, by decide +kernel⟩, Nat.le_of_ble_eq_true rfl, by decide +kernel⟩
theorem vX11_isTask : mVirt mX11_isTask := ⟨(lw_use_in (u5 (List.mem_of_getElem? (i := 225) rfl)) rfl), (lw_use_in (u0 (List.mem_of_getElem? (i := 65) rfl)) rfl)⟩
def mX11_isOpen : mM := (yX11_isOpen, cX11_isOpen, 2, some FieldType.boolean)
theorem qX11_isOpen : mMeth mX11_isOpen 1 := ⟨(lw_use_in (u5 (List.mem_of_getElem? (i := 155) rfl)) rfl), (lw_use_in (u1 (List.mem_of_getElem? (i := 11) rfl)) rfl), ⟨by decide +kernel, by decide +kernel⟩, Nat.le_of_ble_eq_true rfl, by decide +kernel⟩
theorem vX11_isOpen : mVirt mX11_isOpen := ⟨(lw_use_in (u5 (List.mem_of_getElem? (i := 154) rfl)) rfl), (lw_use_in (u0 (List.mem_of_getElem? (i := 48) rfl)) rfl)⟩
def mX11_isHeld : mM := (yX11_isHeld, cX11_isHeld, 2, some FieldType.boolean)
theorem qX11_isHeld : mMeth mX11_isHeld 1 := ⟨(lw_use_in (u5 (List.mem_of_getElem? (i := 175) rfl)) rfl), (lw_use_in (u1 (List.mem_of_getElem? (i := 11) rfl)) rfl), ⟨by decide +kernel, by decide +kernel⟩, Nat.le_of_ble_eq_true rfl, by decide +kernel⟩
theorem vX11_isHeld : mVirt mX11_isHeld := ⟨(lw_use_in (u5 (List.mem_of_getElem? (i := 174) rfl)) rfl), (lw_use_in (u0 (List.mem_of_getElem? (i := 53) rfl)) rfl)⟩
def mX11_isReady : mM := (yX11_isReady, cX11_isReady, 2, some FieldType.boolean)
theorem qX11_isReady : mMeth mX11_isReady 1 := ⟨(lw_use_in (u5 (List.mem_of_getElem? (i := 136) rfl)) rfl), (lw_use_in (u1 (List.mem_of_getElem? (i := 11) rfl)) rfl), ⟨by decide +kernel, by decide +kernel⟩, Nat.le_of_ble_eq_true rfl, by decide +kernel⟩
theorem vX11_isReady : mVirt mX11_isReady := ⟨(lw_use_in (u5 (List.mem_of_getElem? (i := 135) rfl)) rfl), (lw_use_in (u0 (List.mem_of_getElem? (i := 44) rfl)) rfl)⟩
def mX11_copies : mM := (yX11_copies, cX11_copies, 3, none)
theorem qX11_copies : mMeth mX11_copies 2 := ⟨(lw_use_in (u6 (List.mem_of_getElem? (i := 236) rfl)) rfl), (lw_use_in (u1 (List.mem_of_getElem? (i := 11) rfl)) rfl), ⟨by decide +kernel, by decide +kernel⟩, Nat.le_of_ble_eq_true rfl, by decide +kernel⟩
theorem sX11_copies : Cond.static yX11_copies ∈ lw_use := (lw_use_in (u6 (List.mem_of_getElem? (i := 235) rfl)) rfl)
def mX11_stamp : mM := (yX11_stamp, cX11_stamp, 1, some FieldType.int)
theorem qX11_stamp : mMeth mX11_stamp 0 := ⟨(lw_use_in (u5 (List.mem_of_getElem? (i := 214) rfl)) rfl), (lw_use_in (u1 (List.mem_of_getElem? (i := 11) rfl)) rfl), ⟨by decide +kernel, by decide +kernel⟩, Nat.le_of_ble_eq_true rfl, by decide +kernel⟩
theorem vX11_stamp : mVirt mX11_stamp := ⟨(lw_use_in (u5 (List.mem_of_getElem? (i := 213) rfl)) rfl), (lw_use_in (u0 (List.mem_of_getElem? (i := 62) rfl)) rfl)⟩
def mX11_feed : mM := (yX11_feed, cX11_feed, 2, some FieldType.int)
theorem qX11_feed : mMeth mX11_feed 1 := ⟨(lw_use_in (u5 (List.mem_of_getElem? (i := 117) rfl)) rfl), (lw_use_in (u1 (List.mem_of_getElem? (i := 11) rfl)) rfl), ⟨by decide +kernel, by decide +kernel⟩, Nat.le_of_ble_eq_true rfl, by decide +kernel⟩
theorem vX11_feed : mVirt mX11_feed := ⟨(lw_use_in (u5 (List.mem_of_getElem? (i := 115) rfl)) rfl), (lw_use_in (u5 (List.mem_of_getElem? (i := 116) rfl)) rfl)⟩
def mX11_clear : mM := (yX11_clear, cX11_clear, 2, some FieldType.int)
theorem qX11_clear : mMeth mX11_clear 0 := ⟨(lw_use_in (u5 (List.mem_of_getElem? (i := 124) rfl)) rfl), (lw_use_in (u1 (List.mem_of_getElem? (i := 11) rfl)) rfl), ⟨by decide +kernel, by decide +kernel⟩, Nat.le_of_ble_eq_true rfl, by decide +kernel⟩
theorem vX11_clear : mVirt mX11_clear := ⟨(lw_use_in (u5 (List.mem_of_getElem? (i := 122) rfl)) rfl), (lw_use_in (u5 (List.mem_of_getElem? (i := 123) rfl)) rfl)⟩
def mX11_here : mM := (yX11_here, cX11_here, 1, some FieldType.int)
theorem qX11_here : mMeth mX11_here 0 := ⟨(lw_use_in (u6 (List.mem_of_getElem? (i := 35) rfl)) rfl), (lw_use_in (u1 (List.mem_of_getElem? (i := 11) rfl)) rfl), ⟨by decide +kernel, by decide +kernel⟩, Nat.le_of_ble_eq_true rfl, by decide +kernel⟩
theorem vX11_here : mVirt mX11_here := ⟨(lw_use_in (u6 (List.mem_of_getElem? (i := 34) rfl)) rfl), (lw_use_in (u0 (List.mem_of_getElem? (i := 75) rfl)) rfl)⟩
def mX11_fails : mM := (yX11_fails, cX11_fails, 2, some FieldType.boolean)
theorem qX11_fails : mMeth mX11_fails 1 := ⟨(lw_use_in (u6 (List.mem_of_getElem? (i := 39) rfl)) rfl), (lw_use_in (u1 (List.mem_of_getElem? (i := 11) rfl)) rfl), ⟨by decide +kernel, by decide +kernel⟩, Nat.le_of_ble_eq_true rfl, by decide +kernel⟩
theorem vX11_fails : mVirt mX11_fails := ⟨(lw_use_in (u6 (List.mem_of_getElem? (i := 38) rfl)) rfl), (lw_use_in (u0 (List.mem_of_getElem? (i := 76) rfl)) rfl)⟩
def mX11_isSign : mM := (yX11_isSign, cX11_isSign, 2, some FieldType.boolean)
theorem qX11_isSign : mMeth mX11_isSign 1 := ⟨(lw_use_in (u6 (List.mem_of_getElem? (i := 47) rfl)) rfl), (lw_use_in (u1 (List.mem_of_getElem? (i := 11) rfl)) rfl), ⟨by decide +kernel, by decide +kernel⟩, Nat.le_of_ble_eq_true rfl, by decide +kernel⟩
theorem vX11_isSign : mVirt mX11_isSign := ⟨(lw_use_in (u6 (List.mem_of_getElem? (i := 46) rfl)) rfl), (lw_use_in (u0 (List.mem_of_getElem? (i := 78) rfl)) rfl)⟩
def mX11_isNumber : mM := (yX11_isNumber, cX11_isNumber, 6, some FieldType.boolean)
theorem qX11_isNumber : mMeth mX11_isNumber 3 := ⟨(lw_use_in (u6 (List.mem_of_getElem? (i := 43) rfl)) rfl), (lw_use_in (u1 (List.mem_of_getElem? (i := 11) rfl)) rfl), ⟨by decide +kernel, by decide +kernel⟩, Nat.le_of_ble_eq_true rfl, by decide +kernel⟩
theorem vX11_isNumber : mVirt mX11_isNumber := ⟨(lw_use_in (u6 (List.mem_of_getElem? (i := 42) rfl)) rfl), (lw_use_in (u0 (List.mem_of_getElem? (i := 77) rfl)) rfl)⟩
def mX11_isSigned : mM := (yX11_isSigned, cX11_isSigned, 1, some FieldType.boolean)
theorem qX11_isSigned : mMeth mX11_isSigned 0 := ⟨(lw_use_in (u6 (List.mem_of_getElem? (i := 51) rfl)) rfl), (lw_use_in (u1 (List.mem_of_getElem? (i := 11) rfl)) rfl), ⟨by decide +kernel, by decide +kernel⟩, Nat.le_of_ble_eq_true rfl, by decide +kernel⟩
theorem vX11_isSigned : mVirt mX11_isSigned := ⟨(lw_use_in (u6 (List.mem_of_getElem? (i := 50) rfl)) rfl), (lw_use_in (u0 (List.mem_of_getElem? (i := 79) rfl)) rfl)⟩
def mX11_isName : mM := (yX11_isName, cX11_isName, 2, some FieldType.boolean)
theorem qX11_isName : mMeth mX11_isName 0 := ⟨(lw_use_in (u6 (List.mem_of_getElem? (i := 60) rfl)) rfl), (lw_use_in (u1 (List.mem_of_getElem? (i := 11) rfl)) rfl), ⟨by decide +kernel, by decide +kernel⟩, Nat.le_of_ble_eq_true rfl, by decide +kernel⟩
theorem vX11_isName : mVirt mX11_isName := ⟨(lw_use_in (u6 (List.mem_of_getElem? (i := 59) rfl)) rfl), (lw_use_in (u0 (List.mem_of_getElem? (i := 81) rfl)) rfl)⟩
def mX11_isTakeRead : mM := (yX11_isTakeRead, cX11_isTakeRead, 2, some FieldType.boolean)
theorem qX11_isTakeRead : mMeth mX11_isTakeRead 1 := ⟨(lw_use_in (u6 (List.mem_of_getElem? (i := 56) rfl)) rfl), (lw_use_in (u1 (List.mem_of_getElem? (i := 11) rfl)) rfl), ⟨by decide +kernel, by decide +kernel⟩, Nat.le_of_ble_eq_true rfl, by decide +kernel⟩
theorem vX11_isTakeRead : mVirt mX11_isTakeRead := ⟨(lw_use_in (u6 (List.mem_of_getElem? (i := 55) rfl)) rfl), (lw_use_in (u0 (List.mem_of_getElem? (i := 80) rfl)) rfl)⟩
def mX11_isStepRead : mM := (yX11_isStepRead, cX11_isStepRead, 6, some FieldType.boolean)
theorem qX11_isStepRead : mMeth mX11_isStepRead 3 := ⟨(lw_use_in (u6 (List.mem_of_getElem? (i := 31) rfl)) rfl), (lw_use_in (u1 (List.mem_of_getElem? (i := 11) rfl)) rfl), ⟨by decide +kernel, by decide +kernel⟩, Nat.le_of_ble_eq_true rfl, by decide +kernel⟩
theorem vX11_isStepRead : mVirt mX11_isStepRead := ⟨(lw_use_in (u6 (List.mem_of_getElem? (i := 30) rfl)) rfl), (lw_use_in (u0 (List.mem_of_getElem? (i := 74) rfl)) rfl)⟩
def mX11_isStepsRead : mM := (yX11_isStepsRead, cX11_isStepsRead, 5, some FieldType.boolean)
theorem qX11_isStepsRead : mMeth mX11_isStepsRead 2 := ⟨(lw_use_in (u6 (List.mem_of_getElem? (i := 27) rfl)) rfl), (lw_use_in (u1 (List.mem_of_getElem? (i := 11) rfl)) rfl), ⟨by decide +kernel, by decide +kernel⟩, Nat.le_of_ble_eq_true rfl, by decide +kernel⟩
theorem vX11_isStepsRead : mVirt mX11_isStepsRead := ⟨(lw_use_in (u6 (List.mem_of_getElem? (i := 26) rfl)) rfl), (lw_use_in (u0 (List.mem_of_getElem? (i := 73) rfl)) rfl)⟩
def mX11_begins : mM := (yX11_begins, cX11_begins, 4, none)
theorem qX11_begins : mMeth mX11_begins 3 := ⟨(lw_use_in (u6 (List.mem_of_getElem? (i := 23) rfl)) rfl), (lw_use_in (u1 (List.mem_of_getElem? (i := 11) rfl)) rfl), ⟨by decide +kernel, by decide +kernel⟩, Nat.le_of_ble_eq_true rfl, by decide +kernel⟩
theorem vX11_begins : mVirt mX11_begins := ⟨(lw_use_in (u6 (List.mem_of_getElem? (i := 22) rfl)) rfl), (lw_use_in (u0 (List.mem_of_getElem? (i := 72) rfl)) rfl)⟩
def mX11_isWhole : mM := (yX11_isWhole, cX11_isWhole, 1, some FieldType.boolean)
theorem qX11_isWhole : mMeth mX11_isWhole 0 := ⟨(lw_use_in (u6 (List.mem_of_getElem? (i := 64) rfl)) rfl), (lw_use_in (u1 (List.mem_of_getElem? (i := 11) rfl)) rfl), ⟨by decide +kernel, by decide +kernel⟩, Nat.le_of_ble_eq_true rfl, by decide +kernel⟩
theorem vX11_isWhole : mVirt mX11_isWhole := ⟨(lw_use_in (u6 (List.mem_of_getElem? (i := 63) rfl)) rfl), (lw_use_in (u0 (List.mem_of_getElem? (i := 82) rfl)) rfl)⟩
def mX11_stepsIn : mM := (yX11_stepsIn, cX11_stepsIn, 3, some FieldType.int)
theorem qX11_stepsIn : mMeth mX11_stepsIn 2 := ⟨(lw_use_in (u6 (List.mem_of_getElem? (i := 88) rfl)) rfl), (lw_use_in (u1 (List.mem_of_getElem? (i := 11) rfl)) rfl), ⟨by decide +kernel, by decide +kernel⟩, Nat.le_of_ble_eq_true rfl, by decide +kernel⟩
theorem vX11_stepsIn : mVirt mX11_stepsIn := ⟨(lw_use_in (u6 (List.mem_of_getElem? (i := 87) rfl)) rfl), (lw_use_in (u0 (List.mem_of_getElem? (i := 85) rfl)) rfl)⟩
def mX11_pooled : mM := (yX11_pooled, cX11_pooled, 5, some FieldType.int)
theorem qX11_pooled : mMeth mX11_pooled 2 := ⟨(lw_use_in (u6 (List.mem_of_getElem? (i := 68) rfl)) rfl), (lw_use_in (u1 (List.mem_of_getElem? (i := 11) rfl)) rfl), ⟨by decide +kernel, by decide +kernel⟩, Nat.le_of_ble_eq_true rfl, by decide +kernel⟩
theorem vX11_pooled : mVirt mX11_pooled := ⟨(lw_use_in (u6 (List.mem_of_getElem? (i := 67) rfl)) rfl), (lw_use_in (u0 (List.mem_of_getElem? (i := 83) rfl)) rfl)⟩
def mX11_isNamed : mM := (yX11_isNamed, cX11_isNamed, 6, some FieldType.boolean)
theorem qX11_isNamed : mMeth mX11_isNamed 4 := ⟨(lw_use_in (u5 (List.mem_of_getElem? (i := 206) rfl)) rfl), (lw_use_in (u1 (List.mem_of_getElem? (i := 11) rfl)) rfl), ⟨by decide +kernel, by decide +kernel⟩, Nat.le_of_ble_eq_true rfl, by decide +kernel⟩
theorem vX11_isNamed : mVirt mX11_isNamed := ⟨(lw_use_in (u5 (List.mem_of_getElem? (i := 205) rfl)) rfl), (lw_use_in (u0 (List.mem_of_getElem? (i := 60) rfl)) rfl)⟩
def mX11_heldBy : mM := (yX11_heldBy, cX11_heldBy, 5, some FieldType.int)
theorem qX11_heldBy : mMeth mX11_heldBy 3 := ⟨(lw_use_in (u5 (List.mem_of_getElem? (i := 202) rfl)) rfl), (lw_use_in (u1 (List.mem_of_getElem? (i := 11) rfl)) rfl), ⟨by decide +kernel, by decide +kernel⟩, Nat.le_of_ble_eq_true rfl, by decide +kernel⟩
theorem vX11_heldBy : mVirt mX11_heldBy := ⟨(lw_use_in (u5 (List.mem_of_getElem? (i := 201) rfl)) rfl), (lw_use_in (u0 (List.mem_of_getElem? (i := 59) rfl)) rfl)⟩
def mX11_names : mM := (yX11_names, cX11_names, 6, none)
theorem qX11_names : mMeth mX11_names 4 := ⟨(lw_use_in (u5 (List.mem_of_getElem? (i := 218) rfl)) rfl), (lw_use_in (u1 (List.mem_of_getElem? (i := 11) rfl)) rfl), ⟨by decide +kernel, by decide +kernel⟩, Nat.le_of_ble_eq_true rfl, by decide +kernel⟩
theorem vX11_names : mVirt mX11_names := ⟨(lw_use_in (u5 (List.mem_of_getElem? (i := 217) rfl)) rfl), (lw_use_in (u0 (List.mem_of_getElem? (i := 63) rfl)) rfl)⟩
def mX11_takes : mM := (yX11_takes, cX11_takes, 8, some FieldType.int)
theorem qX11_takes : mMeth mX11_takes 6 := ⟨(lw_use_in (u5 (List.mem_of_getElem? (i := 210) rfl)) rfl), (lw_use_in (u1 (List.mem_of_getElem? (i := 11) rfl)) rfl), ⟨by decide +kernel, by decide +kernel⟩, Nat.le_of_ble_eq_true rfl, by decide +kernel⟩
theorem vX11_takes : mVirt mX11_takes := ⟨(lw_use_in (u5 (List.mem_of_getElem? (i := 209) rfl)) rfl), (lw_use_in (u0 (List.mem_of_getElem? (i := 61) rfl)) rfl)⟩
def mX11_moves : mM := (yX11_moves, cX11_moves, 3, none)
theorem qX11_moves : mMeth mX11_moves 2 := ⟨(lw_use_in (u5 (List.mem_of_getElem? (i := 222) rfl)) rfl), (lw_use_in (u1 (List.mem_of_getElem? (i := 11) rfl)) rfl), ⟨by decide +kernel, by decide +kernel⟩, Nat.le_of_ble_eq_true rfl, by decide +kernel⟩
theorem vX11_moves : mVirt mX11_moves := ⟨(lw_use_in (u5 (List.mem_of_getElem? (i := 221) rfl)) rfl), (lw_use_in (u0 (List.mem_of_getElem? (i := 64) rfl)) rfl)⟩
def mX11_gathers : mM := (yX11_gathers, cX11_gathers, 4, none)
theorem qX11_gathers : mMeth mX11_gathers 2 := ⟨(lw_use_in (u5 (List.mem_of_getElem? (i := 234) rfl)) rfl), (lw_use_in (u1 (List.mem_of_getElem? (i := 11) rfl)) rfl), ⟨by decide +kernel, by decide +kernel⟩, Nat.le_of_ble_eq_true rfl, by decide +kernel⟩
theorem vX11_gathers : mVirt mX11_gathers := ⟨(lw_use_in (u5 (List.mem_of_getElem? (i := 233) rfl)) rfl), (lw_use_in (u0 (List.mem_of_getElem? (i := 67) rfl)) rfl)⟩
def mX11_closes : mM := (yX11_closes, cX11_closes, 5, none)
theorem qX11_closes : mMeth mX11_closes 1 := ⟨(lw_use_in (u5 (List.mem_of_getElem? (i := 182) rfl)) rfl), (lw_use_in (u1 (List.mem_of_getElem? (i := 11) rfl)) rfl), ⟨by decide +kernel, by decide +kernel⟩, Nat.le_of_ble_eq_true rfl, by decide +kernel⟩
theorem vX11_closes : mVirt mX11_closes := ⟨(lw_use_in (u5 (List.mem_of_getElem? (i := 181) rfl)) rfl), (lw_use_in (u0 (List.mem_of_getElem? (i := 54) rfl)) rfl)⟩
def mX11_behind : mM := (yX11_behind, cX11_behind, 5, some FieldType.int)
theorem qX11_behind : mMeth mX11_behind 2 := ⟨(lw_use_in (u5 (List.mem_of_getElem? (i := 230) rfl)) rfl), (lw_use_in (u1 (List.mem_of_getElem? (i := 11) rfl)) rfl), ⟨by decide +kernel, by decide +kernel⟩, Nat.le_of_ble_eq_true rfl, by decide +kernel⟩
theorem vX11_behind : mVirt mX11_behind := ⟨(lw_use_in (u5 (List.mem_of_getElem? (i := 229) rfl)) rfl), (lw_use_in (u0 (List.mem_of_getElem? (i := 66) rfl)) rfl)⟩
def mX11_lastOf : mM := (yX11_lastOf, cX11_lastOf, 5, some FieldType.int)
theorem qX11_lastOf : mMeth mX11_lastOf 1 := ⟨(lw_use_in (u5 (List.mem_of_getElem? (i := 171) rfl)) rfl), (lw_use_in (u1 (List.mem_of_getElem? (i := 11) rfl)) rfl), ⟨by decide +kernel, by decide +kernel⟩, Nat.le_of_ble_eq_true rfl, by decide +kernel⟩
theorem vX11_lastOf : mVirt mX11_lastOf := ⟨(lw_use_in (u5 (List.mem_of_getElem? (i := 170) rfl)) rfl), (lw_use_in (u0 (List.mem_of_getElem? (i := 52) rfl)) rfl)⟩
def mX11_shuts : mM := (yX11_shuts, cX11_shuts, 3, none)
theorem qX11_shuts : mMeth mX11_shuts 1 := ⟨(lw_use_in (u5 (List.mem_of_getElem? (i := 167) rfl)) rfl), (lw_use_in (u1 (List.mem_of_getElem? (i := 11) rfl)) rfl), ⟨by decide +kernel, by decide +kernel⟩, Nat.le_of_ble_eq_true rfl, by decide +kernel⟩
theorem vX11_shuts : mVirt mX11_shuts := ⟨(lw_use_in (u5 (List.mem_of_getElem? (i := 166) rfl)) rfl), (lw_use_in (u0 (List.mem_of_getElem? (i := 51) rfl)) rfl)⟩
def mX11_opens : mM := (yX11_opens, cX11_opens, 4, some FieldType.int)
theorem qX11_opens : mMeth mX11_opens 2 := ⟨(lw_use_in (u6 (List.mem_of_getElem? (i := 2) rfl)) rfl), (lw_use_in (u1 (List.mem_of_getElem? (i := 11) rfl)) rfl), ⟨by decide +kernel, by decide +kernel⟩, Nat.le_of_ble_eq_true rfl, by decide +kernel⟩
theorem vX11_opens : mVirt mX11_opens := ⟨(lw_use_in (u6 (List.mem_of_getElem? (i := 1) rfl)) rfl), (lw_use_in (u0 (List.mem_of_getElem? (i := 69) rfl)) rfl)⟩
def mX11_numberAt : mM := (yX11_numberAt, cX11_numberAt, 4, some FieldType.int)
theorem qX11_numberAt : mMeth mX11_numberAt 1 := ⟨(lw_use_in (u5 (List.mem_of_getElem? (i := 190) rfl)) rfl), (lw_use_in (u1 (List.mem_of_getElem? (i := 11) rfl)) rfl), ⟨by decide +kernel, by decide +kernel⟩, Nat.le_of_ble_eq_true rfl, by decide +kernel⟩
theorem vX11_numberAt : mVirt mX11_numberAt := ⟨(lw_use_in (u5 (List.mem_of_getElem? (i := 189) rfl)) rfl), (lw_use_in (u0 (List.mem_of_getElem? (i := 56) rfl)) rfl)⟩
def mX11_nameEnd : mM := (yX11_nameEnd, cX11_nameEnd, 3, some FieldType.int)
theorem qX11_nameEnd : mMeth mX11_nameEnd 1 := ⟨(lw_use_in (u5 (List.mem_of_getElem? (i := 198) rfl)) rfl), (lw_use_in (u1 (List.mem_of_getElem? (i := 11) rfl)) rfl), ⟨by decide +kernel, by decide +kernel⟩, Nat.le_of_ble_eq_true rfl, by decide +kernel⟩
theorem vX11_nameEnd : mVirt mX11_nameEnd := ⟨(lw_use_in (u5 (List.mem_of_getElem? (i := 197) rfl)) rfl), (lw_use_in (u0 (List.mem_of_getElem? (i := 58) rfl)) rfl)⟩
def mX11_taken : mM := (yX11_taken, cX11_taken, 7, some FieldType.int)
theorem qX11_taken : mMeth mX11_taken 2 := ⟨(lw_use_in (u5 (List.mem_of_getElem? (i := 194) rfl)) rfl), (lw_use_in (u1 (List.mem_of_getElem? (i := 11) rfl)) rfl), ⟨by decide +kernel, by decide +kernel⟩, Nat.le_of_ble_eq_true rfl, by decide +kernel⟩
theorem vX11_taken : mVirt mX11_taken := ⟨(lw_use_in (u5 (List.mem_of_getElem? (i := 193) rfl)) rfl), (lw_use_in (u0 (List.mem_of_getElem? (i := 57) rfl)) rfl)⟩
def mX11_does : mM := (yX11_does, cX11_does, 6, some FieldType.int)
theorem qX11_does : mMeth mX11_does 2 := ⟨(lw_use_in (u5 (List.mem_of_getElem? (i := 186) rfl)) rfl), (lw_use_in (u1 (List.mem_of_getElem? (i := 11) rfl)) rfl), ⟨by decide +kernel, by decide +kernel⟩, Nat.le_of_ble_eq_true rfl, by decide +kernel⟩
theorem vX11_does : mVirt mX11_does := ⟨(lw_use_in (u5 (List.mem_of_getElem? (i := 185) rfl)) rfl), (lw_use_in (u0 (List.mem_of_getElem? (i := 55) rfl)) rfl)⟩
def mX11_isFine : mM := (yX11_isFine, cX11_isFine, 4, some FieldType.boolean)
theorem qX11_isFine : mMeth mX11_isFine 1 := ⟨(lw_use_in (u5 (List.mem_of_getElem? (i := 151) rfl)) rfl), (lw_use_in (u1 (List.mem_of_getElem? (i := 11) rfl)) rfl), ⟨by decide +kernel, by decide +kernel⟩, Nat.le_of_ble_eq_true rfl, by decide +kernel⟩
theorem vX11_isFine : mVirt mX11_isFine := ⟨(lw_use_in (u5 (List.mem_of_getElem? (i := 150) rfl)) rfl), (lw_use_in (u0 (List.mem_of_getElem? (i := 47) rfl)) rfl)⟩
def mX11_gatheredBy : mM := (yX11_gatheredBy, cX11_gatheredBy, 4, some FieldType.int)
theorem qX11_gatheredBy : mMeth mX11_gatheredBy 1 := ⟨(lw_use_in (u6 (List.mem_of_getElem? (i := 6) rfl)) rfl), (lw_use_in (u1 (List.mem_of_getElem? (i := 11) rfl)) rfl), ⟨by decide +kernel, by decide +kernel⟩, Nat.le_of_ble_eq_true rfl, by decide +kernel⟩
theorem vX11_gatheredBy : mVirt mX11_gatheredBy := ⟨(lw_use_in (u6 (List.mem_of_getElem? (i := 5) rfl)) rfl), (lw_use_in (u0 (List.mem_of_getElem? (i := 70) rfl)) rfl)⟩
def mX11_isOver : mM := (yX11_isOver, cX11_isOver, 4, none)
theorem qX11_isOver : mMeth mX11_isOver 2 := ⟨(lw_use_in (u5 (List.mem_of_getElem? (i := 163) rfl)) rfl), (lw_use_in (u1 (List.mem_of_getElem? (i := 11) rfl)) rfl), ⟨by decide +kernel, by decide +kernel⟩, Nat.le_of_ble_eq_true rfl, by decide +kernel⟩
theorem vX11_isOver : mVirt mX11_isOver := ⟨(lw_use_in (u5 (List.mem_of_getElem? (i := 162) rfl)) rfl), (lw_use_in (u0 (List.mem_of_getElem? (i := 50) rfl)) rfl)⟩
def mX11_doesIn : mM := (yX11_doesIn, cX11_doesIn, 5, some FieldType.int)
theorem qX11_doesIn : mMeth mX11_doesIn 2 := ⟨(lw_use_in (u5 (List.mem_of_getElem? (i := 238) rfl)) rfl), (lw_use_in (u1 (List.mem_of_getElem? (i := 11) rfl)) rfl), ⟨by decide +kernel, by decide +kernel⟩, Nat.le_of_ble_eq_true rfl, by decide +kernel⟩
theorem vX11_doesIn : mVirt mX11_doesIn := ⟨(lw_use_in (u5 (List.mem_of_getElem? (i := 237) rfl)) rfl), (lw_use_in (u0 (List.mem_of_getElem? (i := 68) rfl)) rfl)⟩
def mX11_turn : mM := (yX11_turn, cX11_turn, 6, none)
theorem qX11_turn : mMeth mX11_turn 1 := ⟨(lw_use_in (u5 (List.mem_of_getElem? (i := 147) rfl)) rfl), (lw_use_in (u1 (List.mem_of_getElem? (i := 11) rfl)) rfl), ⟨by decide +kernel, by decide +kernel⟩, Nat.le_of_ble_eq_true rfl, by decide +kernel⟩
theorem vX11_turn : mVirt mX11_turn := ⟨(lw_use_in (u5 (List.mem_of_getElem? (i := 146) rfl)) rfl), (lw_use_in (u0 (List.mem_of_getElem? (i := 46) rfl)) rfl)⟩
def mX11_isAhead : mM := (yX11_isAhead, cX11_isAhead, 4, some FieldType.boolean)
theorem qX11_isAhead : mMeth mX11_isAhead 2 := ⟨(lw_use_in (u5 (List.mem_of_getElem? (i := 143) rfl)) rfl), (lw_use_in (u1 (List.mem_of_getElem? (i := 11) rfl)) rfl), ⟨by decide +kernel, by decide +kernel⟩, Nat.le_of_ble_eq_true rfl, by decide +kernel⟩
theorem vX11_isAhead : mVirt mX11_isAhead := ⟨(lw_use_in (u5 (List.mem_of_getElem? (i := 142) rfl)) rfl), (lw_use_in (u0 (List.mem_of_getElem? (i := 45) rfl)) rfl)⟩
def mX11_next : mM := (yX11_next, cX11_next, 3, some FieldType.int)
theorem qX11_next : mMeth mX11_next 0 := ⟨(lw_use_in (u5 (List.mem_of_getElem? (i := 132) rfl)) rfl), (lw_use_in (u1 (List.mem_of_getElem? (i := 11) rfl)) rfl), ⟨by decide +kernel, by decide +kernel⟩, Nat.le_of_ble_eq_true rfl, by decide +kernel⟩
theorem vX11_next : mVirt mX11_next := ⟨(lw_use_in (u5 (List.mem_of_getElem? (i := 131) rfl)) rfl), (lw_use_in (u0 (List.mem_of_getElem? (i := 43) rfl)) rfl)⟩
def mX11_tick : mM := (yX11_tick, cX11_tick, 2, some FieldType.int)
theorem qX11_tick : mMeth mX11_tick 0 := ⟨(lw_use_in (u5 (List.mem_of_getElem? (i := 128) rfl)) rfl), (lw_use_in (u1 (List.mem_of_getElem? (i := 11) rfl)) rfl), ⟨by decide +kernel, by decide +kernel⟩, Nat.le_of_ble_eq_true rfl, by decide +kernel⟩
theorem vX11_tick : mVirt mX11_tick := ⟨(lw_use_in (u5 (List.mem_of_getElem? (i := 126) rfl)) rfl), (lw_use_in (u5 (List.mem_of_getElem? (i := 127) rfl)) rfl)⟩
def mX11_ticks : mM := (yX11_ticks, cX11_ticks, 3, some FieldType.int)
theorem qX11_ticks : mMeth mX11_ticks 1 := ⟨(lw_use_in (u6 (List.mem_of_getElem? (i := 14) rfl)) rfl), (lw_use_in (u1 (List.mem_of_getElem? (i := 11) rfl)) rfl), ⟨by decide +kernel, by decide +kernel⟩, Nat.le_of_ble_eq_true rfl, by decide +kernel⟩
theorem vX11_ticks : mVirt mX11_ticks := ⟨(lw_use_in (u6 (List.mem_of_getElem? (i := 13) rfl)) rfl), (lw_use_in (u0 (List.mem_of_getElem? (i := 71) rfl)) rfl)⟩
def mX11_run : mM := (yX11_run, cX11_run, 2, some FieldType.int)
theorem qX11_run : mMeth mX11_run 1 := ⟨(lw_use_in (u6 (List.mem_of_getElem? (i := 10) rfl)) rfl), (lw_use_in (u1 (List.mem_of_getElem? (i := 11) rfl)) rfl), ⟨by decide +kernel, by decide +kernel⟩, Nat.le_of_ble_eq_true rfl, by decide +kernel⟩
theorem vX11_run : mVirt mX11_run := ⟨(lw_use_in (u6 (List.mem_of_getElem? (i := 8) rfl)) rfl), (lw_use_in (u6 (List.mem_of_getElem? (i := 9) rfl)) rfl)⟩
def mX11_task : mM := (yX11_task, cX11_task, 6, some FieldType.int)
theorem qX11_task : mMeth mX11_task 2 := ⟨(lw_use_in (u6 (List.mem_of_getElem? (i := 19) rfl)) rfl), (lw_use_in (u1 (List.mem_of_getElem? (i := 11) rfl)) rfl), ⟨by decide +kernel, by decide +kernel⟩, Nat.le_of_ble_eq_true rfl, by decide +kernel⟩
theorem vX11_task : mVirt mX11_task := ⟨(lw_use_in (u6 (List.mem_of_getElem? (i := 17) rfl)) rfl), (lw_use_in (u6 (List.mem_of_getElem? (i := 18) rfl)) rfl)⟩
def mX11_cancel : mM := (yX11_cancel, cX11_cancel, 3, some FieldType.int)
theorem qX11_cancel : mMeth mX11_cancel 1 := ⟨(lw_use_in (u6 (List.mem_of_getElem? (i := 72) rfl)) rfl), (lw_use_in (u1 (List.mem_of_getElem? (i := 11) rfl)) rfl), ⟨by decide +kernel, by decide +kernel⟩, Nat.le_of_ble_eq_true rfl, by decide +kernel⟩
theorem vX11_cancel : mVirt mX11_cancel := ⟨(lw_use_in (u6 (List.mem_of_getElem? (i := 70) rfl)) rfl), (lw_use_in (u6 (List.mem_of_getElem? (i := 71) rfl)) rfl)⟩
def mX11_rank : mM := (yX11_rank, cX11_rank, 4, some FieldType.int)
theorem qX11_rank : mMeth mX11_rank 2 := ⟨(lw_use_in (u6 (List.mem_of_getElem? (i := 76) rfl)) rfl), (lw_use_in (u1 (List.mem_of_getElem? (i := 11) rfl)) rfl), ⟨by decide +kernel, by decide +kernel⟩, Nat.le_of_ble_eq_true rfl, by decide +kernel⟩
theorem vX11_rank : mVirt mX11_rank := ⟨(lw_use_in (u6 (List.mem_of_getElem? (i := 74) rfl)) rfl), (lw_use_in (u6 (List.mem_of_getElem? (i := 75) rfl)) rfl)⟩
def mX11_notShut : mM := (yX11_notShut, cX11_notShut, 4, some FieldType.int)
theorem qX11_notShut : mMeth mX11_notShut 1 := ⟨(lw_use_in (u6 (List.mem_of_getElem? (i := 84) rfl)) rfl), (lw_use_in (u1 (List.mem_of_getElem? (i := 11) rfl)) rfl), ⟨by decide +kernel, by decide +kernel⟩, Nat.le_of_ble_eq_true rfl, by decide +kernel⟩
theorem vX11_notShut : mVirt mX11_notShut := ⟨(lw_use_in (u6 (List.mem_of_getElem? (i := 83) rfl)) rfl), (lw_use_in (u0 (List.mem_of_getElem? (i := 84) rfl)) rfl)⟩
def mX11_of : mM := (yX11_of, cX11_of, 3, some FieldType.int)
theorem qX11_of : mMeth mX11_of 2 := ⟨(lw_use_in (u6 (List.mem_of_getElem? (i := 80) rfl)) rfl), (lw_use_in (u1 (List.mem_of_getElem? (i := 11) rfl)) rfl), ⟨by decide +kernel, by decide +kernel⟩, Nat.le_of_ble_eq_true rfl, by decide +kernel⟩
theorem vX11_of : mVirt mX11_of := ⟨(lw_use_in (u6 (List.mem_of_getElem? (i := 78) rfl)) rfl), (lw_use_in (u6 (List.mem_of_getElem? (i := 79) rfl)) rfl)⟩
def mX11_ready : mM := (yX11_ready, cX11_ready, 5, some FieldType.int)
theorem qX11_ready : mMeth mX11_ready 1 := ⟨(lw_use_in (u6 (List.mem_of_getElem? (i := 92) rfl)) rfl), (lw_use_in (u1 (List.mem_of_getElem? (i := 11) rfl)) rfl), ⟨by decide +kernel, by decide +kernel⟩, Nat.le_of_ble_eq_true rfl, by decide +kernel⟩
theorem vX11_ready : mVirt mX11_ready := ⟨(lw_use_in (u6 (List.mem_of_getElem? (i := 90) rfl)) rfl), (lw_use_in (u6 (List.mem_of_getElem? (i := 91) rfl)) rfl)⟩
def mX11_hasFaults : mM := (yX11_hasFaults, cX11_hasFaults, 2, some FieldType.boolean)
theorem qX11_hasFaults : mMeth mX11_hasFaults 1 := ⟨(lw_use_in (u6 (List.mem_of_getElem? (i := 100) rfl)) rfl), (lw_use_in (u1 (List.mem_of_getElem? (i := 11) rfl)) rfl), ⟨by decide +kernel, by decide +kernel⟩, Nat.le_of_ble_eq_true rfl, by decide +kernel⟩
theorem vX11_hasFaults : mVirt mX11_hasFaults := ⟨(lw_use_in (u6 (List.mem_of_getElem? (i := 99) rfl)) rfl), (lw_use_in (u0 (List.mem_of_getElem? (i := 86) rfl)) rfl)⟩
def mX11_manyFaults : mM := (yX11_manyFaults, cX11_manyFaults, 2, some FieldType.int)
theorem qX11_manyFaults : mMeth mX11_manyFaults 1 := ⟨(lw_use_in (u6 (List.mem_of_getElem? (i := 104) rfl)) rfl), (lw_use_in (u1 (List.mem_of_getElem? (i := 11) rfl)) rfl), ⟨by decide +kernel, by decide +kernel⟩, Nat.le_of_ble_eq_true rfl, by decide +kernel⟩
theorem vX11_manyFaults : mVirt mX11_manyFaults := ⟨(lw_use_in (u6 (List.mem_of_getElem? (i := 103) rfl)) rfl), (lw_use_in (u0 (List.mem_of_getElem? (i := 87) rfl)) rfl)⟩
def mX11_faultAt : mM := (yX11_faultAt, cX11_faultAt, 6, some FieldType.int)
theorem qX11_faultAt : mMeth mX11_faultAt 3 := ⟨(lw_use_in (u6 (List.mem_of_getElem? (i := 108) rfl)) rfl), (lw_use_in (u1 (List.mem_of_getElem? (i := 11) rfl)) rfl), ⟨by decide +kernel, by decide +kernel⟩, Nat.le_of_ble_eq_true rfl, by decide +kernel⟩
theorem vX11_faultAt : mVirt mX11_faultAt := ⟨(lw_use_in (u6 (List.mem_of_getElem? (i := 107) rfl)) rfl), (lw_use_in (u0 (List.mem_of_getElem? (i := 88) rfl)) rfl)⟩
def mX11_fault : mM := (yX11_fault, cX11_fault, 4, some FieldType.int)
theorem qX11_fault : mMeth mX11_fault 3 := ⟨(lw_use_in (u6 (List.mem_of_getElem? (i := 96) rfl)) rfl), (lw_use_in (u1 (List.mem_of_getElem? (i := 11) rfl)) rfl), ⟨by decide +kernel, by decide +kernel⟩, Nat.le_of_ble_eq_true rfl, by decide +kernel⟩
theorem vX11_fault : mVirt mX11_fault := ⟨(lw_use_in (u6 (List.mem_of_getElem? (i := 94) rfl)) rfl), (lw_use_in (u6 (List.mem_of_getElem? (i := 95) rfl)) rfl)⟩
def mX11_faults : mM := (yX11_faults, cX11_faults, 2, some FieldType.int)
theorem qX11_faults : mMeth mX11_faults 1 := ⟨(lw_use_in (u6 (List.mem_of_getElem? (i := 112) rfl)) rfl), (lw_use_in (u1 (List.mem_of_getElem? (i := 11) rfl)) rfl), ⟨by decide +kernel, by decide +kernel⟩, Nat.le_of_ble_eq_true rfl, by decide +kernel⟩
theorem vX11_faults : mVirt mX11_faults := ⟨(lw_use_in (u6 (List.mem_of_getElem? (i := 110) rfl)) rfl), (lw_use_in (u6 (List.mem_of_getElem? (i := 111) rfl)) rfl)⟩
def mX11_open : mM := (yX11_open, cX11_open, 2, some FieldType.int)
theorem qX11_open : mMeth mX11_open 1 := ⟨(lw_use_in (u6 (List.mem_of_getElem? (i := 116) rfl)) rfl), (lw_use_in (u1 (List.mem_of_getElem? (i := 11) rfl)) rfl), ⟨by decide +kernel, by decide +kernel⟩, Nat.le_of_ble_eq_true rfl, by decide +kernel⟩
theorem vX11_open : mVirt mX11_open := ⟨(lw_use_in (u6 (List.mem_of_getElem? (i := 114) rfl)) rfl), (lw_use_in (u6 (List.mem_of_getElem? (i := 115) rfl)) rfl)⟩
def mX11_take : mM := (yX11_take, cX11_take, 6, some FieldType.int)
theorem qX11_take : mMeth mX11_take 1 := ⟨(lw_use_in (u6 (List.mem_of_getElem? (i := 120) rfl)) rfl), (lw_use_in (u1 (List.mem_of_getElem? (i := 11) rfl)) rfl), ⟨by decide +kernel, by decide +kernel⟩, Nat.le_of_ble_eq_true rfl, by decide +kernel⟩
theorem vX11_take : mVirt mX11_take := ⟨(lw_use_in (u6 (List.mem_of_getElem? (i := 118) rfl)) rfl), (lw_use_in (u6 (List.mem_of_getElem? (i := 119) rfl)) rfl)⟩
def mX11_close : mM := (yX11_close, cX11_close, 2, some FieldType.int)
theorem qX11_close : mMeth mX11_close 1 := ⟨(lw_use_in (u6 (List.mem_of_getElem? (i := 124) rfl)) rfl), (lw_use_in (u1 (List.mem_of_getElem? (i := 11) rfl)) rfl), ⟨by decide +kernel, by decide +kernel⟩, Nat.le_of_ble_eq_true rfl, by decide +kernel⟩
theorem vX11_close : mVirt mX11_close := ⟨(lw_use_in (u6 (List.mem_of_getElem? (i := 122) rfl)) rfl), (lw_use_in (u6 (List.mem_of_getElem? (i := 123) rfl)) rfl)⟩
def mX11_shut : mM := (yX11_shut, cX11_shut, 2, some FieldType.int)
theorem qX11_shut : mMeth mX11_shut 1 := ⟨(lw_use_in (u6 (List.mem_of_getElem? (i := 132) rfl)) rfl), (lw_use_in (u1 (List.mem_of_getElem? (i := 11) rfl)) rfl), ⟨by decide +kernel, by decide +kernel⟩, Nat.le_of_ble_eq_true rfl, by decide +kernel⟩
theorem vX11_shut : mVirt mX11_shut := ⟨(lw_use_in (u6 (List.mem_of_getElem? (i := 130) rfl)) rfl), (lw_use_in (u6 (List.mem_of_getElem? (i := 131) rfl)) rfl)⟩
def mX11_entries : mM := (yX11_entries, cX11_entries, 4, some FieldType.int)
theorem qX11_entries : mMeth mX11_entries 1 := ⟨(lw_use_in (u6 (List.mem_of_getElem? (i := 140) rfl)) rfl), (lw_use_in (u1 (List.mem_of_getElem? (i := 11) rfl)) rfl), ⟨by decide +kernel, by decide +kernel⟩, Nat.le_of_ble_eq_true rfl, by decide +kernel⟩
theorem vX11_entries : mVirt mX11_entries := ⟨(lw_use_in (u6 (List.mem_of_getElem? (i := 139) rfl)) rfl), (lw_use_in (u0 (List.mem_of_getElem? (i := 90) rfl)) rfl)⟩
def mX11_move : mM := (yX11_move, cX11_move, 3, some FieldType.int)
theorem qX11_move : mMeth mX11_move 2 := ⟨(lw_use_in (u6 (List.mem_of_getElem? (i := 136) rfl)) rfl), (lw_use_in (u1 (List.mem_of_getElem? (i := 11) rfl)) rfl), ⟨by decide +kernel, by decide +kernel⟩, Nat.le_of_ble_eq_true rfl, by decide +kernel⟩
theorem vX11_move : mVirt mX11_move := ⟨(lw_use_in (u6 (List.mem_of_getElem? (i := 134) rfl)) rfl), (lw_use_in (u6 (List.mem_of_getElem? (i := 135) rfl)) rfl)⟩
def mX11_count : mM := (yX11_count, cX11_count, 3, some FieldType.int)
theorem qX11_count : mMeth mX11_count 2 := ⟨(lw_use_in (u6 (List.mem_of_getElem? (i := 144) rfl)) rfl), (lw_use_in (u1 (List.mem_of_getElem? (i := 11) rfl)) rfl), ⟨by decide +kernel, by decide +kernel⟩, Nat.le_of_ble_eq_true rfl, by decide +kernel⟩
theorem vX11_count : mVirt mX11_count := ⟨(lw_use_in (u6 (List.mem_of_getElem? (i := 142) rfl)) rfl), (lw_use_in (u6 (List.mem_of_getElem? (i := 143) rfl)) rfl)⟩
def mX11_counter : mM := (yX11_counter, cX11_counter, 2, some FieldType.long)
theorem qX11_counter : mMeth mX11_counter 1 := ⟨(lw_use_in (u6 (List.mem_of_getElem? (i := 148) rfl)) rfl), (lw_use_in (u1 (List.mem_of_getElem? (i := 11) rfl)) rfl), ⟨by decide +kernel, by decide +kernel⟩, Nat.le_of_ble_eq_true rfl, by decide +kernel⟩
theorem vX11_counter : mVirt mX11_counter := ⟨(lw_use_in (u6 (List.mem_of_getElem? (i := 146) rfl)) rfl), (lw_use_in (u6 (List.mem_of_getElem? (i := 147) rfl)) rfl)⟩
def mX11_isBelow : mM := (yX11_isBelow, cX11_isBelow, 4, some FieldType.boolean)
theorem qX11_isBelow : mMeth mX11_isBelow 2 := ⟨(lw_use_in (u6 (List.mem_of_getElem? (i := 161) rfl)) rfl), (lw_use_in (u1 (List.mem_of_getElem? (i := 11) rfl)) rfl), ⟨by decide +kernel, by decide +kernel⟩, Nat.le_of_ble_eq_true rfl, by decide +kernel⟩
theorem vX11_isBelow : mVirt mX11_isBelow := ⟨(lw_use_in (u6 (List.mem_of_getElem? (i := 160) rfl)) rfl), (lw_use_in (u0 (List.mem_of_getElem? (i := 92) rfl)) rfl)⟩
def mX11_heldIn : mM := (yX11_heldIn, cX11_heldIn, 4, some FieldType.int)
theorem qX11_heldIn : mMeth mX11_heldIn 1 := ⟨(lw_use_in (u6 (List.mem_of_getElem? (i := 157) rfl)) rfl), (lw_use_in (u1 (List.mem_of_getElem? (i := 11) rfl)) rfl), ⟨by decide +kernel, by decide +kernel⟩, Nat.le_of_ble_eq_true rfl, by decide +kernel⟩
theorem vX11_heldIn : mVirt mX11_heldIn := ⟨(lw_use_in (u6 (List.mem_of_getElem? (i := 156) rfl)) rfl), (lw_use_in (u0 (List.mem_of_getElem? (i := 91) rfl)) rfl)⟩
def mX11_above : mM := (yX11_above, cX11_above, 4, some FieldType.int)
theorem qX11_above : mMeth mX11_above 1 := ⟨(lw_use_in (u6 (List.mem_of_getElem? (i := 165) rfl)) rfl), (lw_use_in (u1 (List.mem_of_getElem? (i := 11) rfl)) rfl), ⟨by decide +kernel, by decide +kernel⟩, Nat.le_of_ble_eq_true rfl, by decide +kernel⟩
theorem vX11_above : mVirt mX11_above := ⟨(lw_use_in (u6 (List.mem_of_getElem? (i := 164) rfl)) rfl), (lw_use_in (u0 (List.mem_of_getElem? (i := 93) rfl)) rfl)⟩
def mX11_scope : mM := (yX11_scope, cX11_scope, 3, some FieldType.int)
theorem qX11_scope : mMeth mX11_scope 2 := ⟨(lw_use_in (u6 (List.mem_of_getElem? (i := 153) rfl)) rfl), (lw_use_in (u1 (List.mem_of_getElem? (i := 11) rfl)) rfl), ⟨by decide +kernel, by decide +kernel⟩, Nat.le_of_ble_eq_true rfl, by decide +kernel⟩
theorem vX11_scope : mVirt mX11_scope := ⟨(lw_use_in (u6 (List.mem_of_getElem? (i := 151) rfl)) rfl), (lw_use_in (u6 (List.mem_of_getElem? (i := 152) rfl)) rfl)⟩
def mX11_below : mM := (yX11_below, cX11_below, 3, some FieldType.int)
theorem qX11_below : mMeth mX11_below 2 := ⟨(lw_use_in (u6 (List.mem_of_getElem? (i := 169) rfl)) rfl), (lw_use_in (u1 (List.mem_of_getElem? (i := 11) rfl)) rfl), ⟨by decide +kernel, by decide +kernel⟩, Nat.le_of_ble_eq_true rfl, by decide +kernel⟩
theorem vX11_below : mVirt mX11_below := ⟨(lw_use_in (u6 (List.mem_of_getElem? (i := 167) rfl)) rfl), (lw_use_in (u6 (List.mem_of_getElem? (i := 168) rfl)) rfl)⟩
def mX11_youngest : mM := (yX11_youngest, cX11_youngest, 4, some FieldType.int)
theorem qX11_youngest : mMeth mX11_youngest 1 := ⟨(lw_use_in (u6 (List.mem_of_getElem? (i := 173) rfl)) rfl), (lw_use_in (u1 (List.mem_of_getElem? (i := 11) rfl)) rfl), ⟨by decide +kernel, by decide +kernel⟩, Nat.le_of_ble_eq_true rfl, by decide +kernel⟩
theorem vX11_youngest : mVirt mX11_youngest := ⟨(lw_use_in (u6 (List.mem_of_getElem? (i := 171) rfl)) rfl), (lw_use_in (u6 (List.mem_of_getElem? (i := 172) rfl)) rfl)⟩
def mX11_stampOf : mM := (yX11_stampOf, cX11_stampOf, 2, some FieldType.int)
theorem qX11_stampOf : mMeth mX11_stampOf 1 := ⟨(lw_use_in (u6 (List.mem_of_getElem? (i := 189) rfl)) rfl), (lw_use_in (u1 (List.mem_of_getElem? (i := 11) rfl)) rfl), ⟨by decide +kernel, by decide +kernel⟩, Nat.le_of_ble_eq_true rfl, by decide +kernel⟩
theorem vX11_stampOf : mVirt mX11_stampOf := ⟨(lw_use_in (u6 (List.mem_of_getElem? (i := 188) rfl)) rfl), (lw_use_in (u0 (List.mem_of_getElem? (i := 96) rfl)) rfl)⟩
def mX11_isEntry : mM := (yX11_isEntry, cX11_isEntry, 3, some FieldType.boolean)
theorem qX11_isEntry : mMeth mX11_isEntry 2 := ⟨(lw_use_in (u6 (List.mem_of_getElem? (i := 185) rfl)) rfl), (lw_use_in (u1 (List.mem_of_getElem? (i := 11) rfl)) rfl), ⟨by decide +kernel, by decide +kernel⟩, Nat.le_of_ble_eq_true rfl, by decide +kernel⟩
theorem vX11_isEntry : mVirt mX11_isEntry := ⟨(lw_use_in (u6 (List.mem_of_getElem? (i := 184) rfl)) rfl), (lw_use_in (u0 (List.mem_of_getElem? (i := 95) rfl)) rfl)⟩
def mX11_entryAhead : mM := (yX11_entryAhead, cX11_entryAhead, 5, some FieldType.int)
theorem qX11_entryAhead : mMeth mX11_entryAhead 2 := ⟨(lw_use_in (u6 (List.mem_of_getElem? (i := 181) rfl)) rfl), (lw_use_in (u1 (List.mem_of_getElem? (i := 11) rfl)) rfl), ⟨by decide +kernel, by decide +kernel⟩, Nat.le_of_ble_eq_true rfl, by decide +kernel⟩
theorem vX11_entryAhead : mVirt mX11_entryAhead := ⟨(lw_use_in (u6 (List.mem_of_getElem? (i := 180) rfl)) rfl), (lw_use_in (u0 (List.mem_of_getElem? (i := 94) rfl)) rfl)⟩
def mX11_entry : mM := (yX11_entry, cX11_entry, 5, some FieldType.int)
theorem qX11_entry : mMeth mX11_entry 2 := ⟨(lw_use_in (u6 (List.mem_of_getElem? (i := 177) rfl)) rfl), (lw_use_in (u1 (List.mem_of_getElem? (i := 11) rfl)) rfl), ⟨by decide +kernel, by decide +kernel⟩, Nat.le_of_ble_eq_true rfl, by decide +kernel⟩
theorem vX11_entry : mVirt mX11_entry := ⟨(lw_use_in (u6 (List.mem_of_getElem? (i := 175) rfl)) rfl), (lw_use_in (u6 (List.mem_of_getElem? (i := 176) rfl)) rfl)⟩
def mX11_thing : mM := (yX11_thing, cX11_thing, 3, some FieldType.int)
theorem qX11_thing : mMeth mX11_thing 2 := ⟨(lw_use_in (u6 (List.mem_of_getElem? (i := 193) rfl)) rfl), (lw_use_in (u1 (List.mem_of_getElem? (i := 11) rfl)) rfl), ⟨by decide +kernel, by decide +kernel⟩, Nat.le_of_ble_eq_true rfl, by decide +kernel⟩
theorem vX11_thing : mVirt mX11_thing := ⟨(lw_use_in (u6 (List.mem_of_getElem? (i := 191) rfl)) rfl), (lw_use_in (u6 (List.mem_of_getElem? (i := 192) rfl)) rfl)⟩
def mX11_name : mM := (yX11_name, cX11_name, 3, some FieldType.int)
theorem qX11_name : mMeth mX11_name 2 := ⟨(lw_use_in (u6 (List.mem_of_getElem? (i := 197) rfl)) rfl), (lw_use_in (u1 (List.mem_of_getElem? (i := 11) rfl)) rfl), ⟨by decide +kernel, by decide +kernel⟩, Nat.le_of_ble_eq_true rfl, by decide +kernel⟩
theorem vX11_name : mVirt mX11_name := ⟨(lw_use_in (u6 (List.mem_of_getElem? (i := 195) rfl)) rfl), (lw_use_in (u6 (List.mem_of_getElem? (i := 196) rfl)) rfl)⟩
def mX11_find : mM := (yX11_find, cX11_find, 2, some FieldType.int)
theorem qX11_find : mMeth mX11_find 0 := ⟨(lw_use_in (u6 (List.mem_of_getElem? (i := 201) rfl)) rfl), (lw_use_in (u1 (List.mem_of_getElem? (i := 11) rfl)) rfl), ⟨by decide +kernel, by decide +kernel⟩, Nat.le_of_ble_eq_true rfl, by decide +kernel⟩
theorem vX11_find : mVirt mX11_find := ⟨(lw_use_in (u6 (List.mem_of_getElem? (i := 199) rfl)) rfl), (lw_use_in (u6 (List.mem_of_getElem? (i := 200) rfl)) rfl)⟩
def mX11_against : mM := (yX11_against, cX11_against, 8, some FieldType.int)
theorem qX11_against : mMeth mX11_against 4 := ⟨(lw_use_in (u6 (List.mem_of_getElem? (i := 209) rfl)) rfl), (lw_use_in (u1 (List.mem_of_getElem? (i := 11) rfl)) rfl), ⟨by decide +kernel, by decide +kernel⟩, Nat.le_of_ble_eq_true rfl, by decide +kernel⟩
theorem vX11_against : mVirt mX11_against := ⟨(lw_use_in (u6 (List.mem_of_getElem? (i := 208) rfl)) rfl), (lw_use_in (u0 (List.mem_of_getElem? (i := 97) rfl)) rfl)⟩
def mX11_against_ : mM := (yX11_against_, cX11_against_, 3, some FieldType.int)
theorem qX11_against_ : mMeth mX11_against_ 2 := ⟨(lw_use_in (u6 (List.mem_of_getElem? (i := 213) rfl)) rfl), (lw_use_in (u1 (List.mem_of_getElem? (i := 11) rfl)) rfl), ⟨by decide +kernel, by decide +kernel⟩, Nat.le_of_ble_eq_true rfl, by decide +kernel⟩
theorem vX11_against_ : mVirt mX11_against_ := ⟨(lw_use_in (u6 (List.mem_of_getElem? (i := 212) rfl)) rfl), (lw_use_in (u0 (List.mem_of_getElem? (i := 98) rfl)) rfl)⟩
def mX11_from : mM := (yX11_from, cX11_from, 4, some FieldType.int)
theorem qX11_from : mMeth mX11_from 0 := ⟨(lw_use_in (u6 (List.mem_of_getElem? (i := 205) rfl)) rfl), (lw_use_in (u1 (List.mem_of_getElem? (i := 11) rfl)) rfl), ⟨by decide +kernel, by decide +kernel⟩, Nat.le_of_ble_eq_true rfl, by decide +kernel⟩
theorem vX11_from : mVirt mX11_from := ⟨(lw_use_in (u6 (List.mem_of_getElem? (i := 203) rfl)) rfl), (lw_use_in (u6 (List.mem_of_getElem? (i := 204) rfl)) rfl)⟩
def mX11_rename : mM := (yX11_rename, cX11_rename, 3, some FieldType.int)
theorem qX11_rename : mMeth mX11_rename 1 := ⟨(lw_use_in (u6 (List.mem_of_getElem? (i := 217) rfl)) rfl), (lw_use_in (u1 (List.mem_of_getElem? (i := 11) rfl)) rfl), ⟨by decide +kernel, by decide +kernel⟩, Nat.le_of_ble_eq_true rfl, by decide +kernel⟩
theorem vX11_rename : mVirt mX11_rename := ⟨(lw_use_in (u6 (List.mem_of_getElem? (i := 215) rfl)) rfl), (lw_use_in (u6 (List.mem_of_getElem? (i := 216) rfl)) rfl)⟩
def mX11_byName : mM := (yX11_byName, cX11_byName, 5, some FieldType.int)
theorem qX11_byName : mMeth mX11_byName 1 := ⟨(lw_use_in (u6 (List.mem_of_getElem? (i := 221) rfl)) rfl), (lw_use_in (u1 (List.mem_of_getElem? (i := 11) rfl)) rfl), ⟨by decide +kernel, by decide +kernel⟩, Nat.le_of_ble_eq_true rfl, by decide +kernel⟩
theorem vX11_byName : mVirt mX11_byName := ⟨(lw_use_in (u6 (List.mem_of_getElem? (i := 219) rfl)) rfl), (lw_use_in (u6 (List.mem_of_getElem? (i := 220) rfl)) rfl)⟩
def mX11_plansOf : mM := (yX11_plansOf, cX11_plansOf, 3, none)
theorem qX11_plansOf : mMeth mX11_plansOf 1 := ⟨(lw_use_in (u6 (List.mem_of_getElem? (i := 229) rfl)) rfl), (lw_use_in (u1 (List.mem_of_getElem? (i := 11) rfl)) rfl), ⟨by decide +kernel, by decide +kernel⟩, Nat.le_of_ble_eq_true rfl, by decide +kernel⟩
theorem vX11_plansOf : mVirt mX11_plansOf := ⟨(lw_use_in (u6 (List.mem_of_getElem? (i := 228) rfl)) rfl), (lw_use_in (u0 (List.mem_of_getElem? (i := 99) rfl)) rfl)⟩
def mX11_plan : mM := (yX11_plan, cX11_plan, 3, some FieldType.int)
theorem qX11_plan : mMeth mX11_plan 2 := ⟨(lw_use_in (u6 (List.mem_of_getElem? (i := 225) rfl)) rfl), (lw_use_in (u1 (List.mem_of_getElem? (i := 11) rfl)) rfl), ⟨by decide +kernel, by decide +kernel⟩, Nat.le_of_ble_eq_true rfl, by decide +kernel⟩
theorem vX11_plan : mVirt mX11_plan := ⟨(lw_use_in (u6 (List.mem_of_getElem? (i := 223) rfl)) rfl), (lw_use_in (u6 (List.mem_of_getElem? (i := 224) rfl)) rfl)⟩
def mX11_held : mM := (yX11_held, cX11_held, 3, some FieldType.int)
theorem qX11_held : mMeth mX11_held 0 := ⟨(lw_use_in (u7 (List.mem_of_getElem? (i := 5) rfl)) rfl), (lw_use_in (u1 (List.mem_of_getElem? (i := 11) rfl)) rfl), ⟨by decide +kernel, by decide +kernel⟩, Nat.le_of_ble_eq_true rfl, by decide +kernel⟩
theorem vX11_held : mVirt mX11_held := ⟨(lw_use_in (u7 (List.mem_of_getElem? (i := 4) rfl)) rfl), (lw_use_in (u0 (List.mem_of_getElem? (i := 101) rfl)) rfl)⟩
def mX11_wouldNow : mM := (yX11_wouldNow, cX11_wouldNow, 2, some FieldType.int)
theorem qX11_wouldNow : mMeth mX11_wouldNow 1 := ⟨(lw_use_in (u7 (List.mem_of_getElem? (i := 1) rfl)) rfl), (lw_use_in (u1 (List.mem_of_getElem? (i := 11) rfl)) rfl), ⟨by decide +kernel, by decide +kernel⟩, Nat.le_of_ble_eq_true rfl, by decide +kernel⟩
theorem vX11_wouldNow : mVirt mX11_wouldNow := ⟨(lw_use_in (u7 (List.mem_of_getElem? (i := 0) rfl)) rfl), (lw_use_in (u0 (List.mem_of_getElem? (i := 100) rfl)) rfl)⟩
def mX11_would : mM := (yX11_would, cX11_would, 4, some FieldType.int)
theorem qX11_would : mMeth mX11_would 2 := ⟨(lw_use_in (u6 (List.mem_of_getElem? (i := 233) rfl)) rfl), (lw_use_in (u1 (List.mem_of_getElem? (i := 11) rfl)) rfl), ⟨by decide +kernel, by decide +kernel⟩, Nat.le_of_ble_eq_true rfl, by decide +kernel⟩
theorem vX11_would : mVirt mX11_would := ⟨(lw_use_in (u6 (List.mem_of_getElem? (i := 231) rfl)) rfl), (lw_use_in (u6 (List.mem_of_getElem? (i := 232) rfl)) rfl)⟩
def mX11_trialNow : mM := (yX11_trialNow, cX11_trialNow, 3, some FieldType.int)
theorem qX11_trialNow : mMeth mX11_trialNow 2 := ⟨(lw_use_in (u7 (List.mem_of_getElem? (i := 13) rfl)) rfl), (lw_use_in (u1 (List.mem_of_getElem? (i := 11) rfl)) rfl), ⟨by decide +kernel, by decide +kernel⟩, Nat.le_of_ble_eq_true rfl, by decide +kernel⟩
theorem vX11_trialNow : mVirt mX11_trialNow := ⟨(lw_use_in (u7 (List.mem_of_getElem? (i := 12) rfl)) rfl), (lw_use_in (u0 (List.mem_of_getElem? (i := 102) rfl)) rfl)⟩
def mX11_trial : mM := (yX11_trial, cX11_trial, 5, some FieldType.int)
theorem qX11_trial : mMeth mX11_trial 3 := ⟨(lw_use_in (u7 (List.mem_of_getElem? (i := 9) rfl)) rfl), (lw_use_in (u1 (List.mem_of_getElem? (i := 11) rfl)) rfl), ⟨by decide +kernel, by decide +kernel⟩, Nat.le_of_ble_eq_true rfl, by decide +kernel⟩
theorem vX11_trial : mVirt mX11_trial := ⟨(lw_use_in (u7 (List.mem_of_getElem? (i := 7) rfl)) rfl), (lw_use_in (u7 (List.mem_of_getElem? (i := 8) rfl)) rfl)⟩
def mX11_log : mM := (yX11_log, cX11_log, 2, some FieldType.int)
theorem qX11_log : mMeth mX11_log 1 := ⟨(lw_use_in (u7 (List.mem_of_getElem? (i := 17) rfl)) rfl), (lw_use_in (u1 (List.mem_of_getElem? (i := 11) rfl)) rfl), ⟨by decide +kernel, by decide +kernel⟩, Nat.le_of_ble_eq_true rfl, by decide +kernel⟩
theorem vX11_log : mVirt mX11_log := ⟨(lw_use_in (u7 (List.mem_of_getElem? (i := 15) rfl)) rfl), (lw_use_in (u7 (List.mem_of_getElem? (i := 16) rfl)) rfl)⟩
def mX11_opened : mM := (yX11_opened, cX11_opened, 3, some FieldType.int)
theorem qX11_opened : mMeth mX11_opened 0 := ⟨(lw_use_in (u7 (List.mem_of_getElem? (i := 25) rfl)) rfl), (lw_use_in (u1 (List.mem_of_getElem? (i := 11) rfl)) rfl), ⟨by decide +kernel, by decide +kernel⟩, Nat.le_of_ble_eq_true rfl, by decide +kernel⟩
theorem vX11_opened : mVirt mX11_opened := ⟨(lw_use_in (u7 (List.mem_of_getElem? (i := 24) rfl)) rfl), (lw_use_in (u0 (List.mem_of_getElem? (i := 103) rfl)) rfl)⟩
def mX11_readyOnes : mM := (yX11_readyOnes, cX11_readyOnes, 3, some FieldType.int)
theorem qX11_readyOnes : mMeth mX11_readyOnes 0 := ⟨(lw_use_in (u7 (List.mem_of_getElem? (i := 29) rfl)) rfl), (lw_use_in (u1 (List.mem_of_getElem? (i := 11) rfl)) rfl), ⟨by decide +kernel, by decide +kernel⟩, Nat.le_of_ble_eq_true rfl, by decide +kernel⟩
theorem vX11_readyOnes : mVirt mX11_readyOnes := ⟨(lw_use_in (u7 (List.mem_of_getElem? (i := 28) rfl)) rfl), (lw_use_in (u0 (List.mem_of_getElem? (i := 104) rfl)) rfl)⟩
def mX11_told : mM := (yX11_told, cX11_told, 2, some FieldType.int)
theorem qX11_told : mMeth mX11_told 1 := ⟨(lw_use_in (u7 (List.mem_of_getElem? (i := 21) rfl)) rfl), (lw_use_in (u1 (List.mem_of_getElem? (i := 11) rfl)) rfl), ⟨by decide +kernel, by decide +kernel⟩, Nat.le_of_ble_eq_true rfl, by decide +kernel⟩
theorem vX11_told : mVirt mX11_told := ⟨(lw_use_in (u7 (List.mem_of_getElem? (i := 19) rfl)) rfl), (lw_use_in (u7 (List.mem_of_getElem? (i := 20) rfl)) rfl)⟩
def mX11_spells : mM := (yX11_spells, cX11_spells, 8, none)
theorem qX11_spells : mMeth mX11_spells 2 := ⟨(lw_use_in (u7 (List.mem_of_getElem? (i := 37) rfl)) rfl), (lw_use_in (u1 (List.mem_of_getElem? (i := 11) rfl)) rfl), ⟨by decide +kernel, by decide +kernel⟩, Nat.le_of_ble_eq_true rfl, by decide +kernel⟩
theorem vX11_spells : mVirt mX11_spells := ⟨(lw_use_in (u7 (List.mem_of_getElem? (i := 36) rfl)) rfl), (lw_use_in (u0 (List.mem_of_getElem? (i := 105) rfl)) rfl)⟩
def mX11_spell : mM := (yX11_spell, cX11_spell, 2, some FieldType.int)
theorem qX11_spell : mMeth mX11_spell 1 := ⟨(lw_use_in (u7 (List.mem_of_getElem? (i := 33) rfl)) rfl), (lw_use_in (u1 (List.mem_of_getElem? (i := 11) rfl)) rfl), ⟨by decide +kernel, by decide +kernel⟩, Nat.le_of_ble_eq_true rfl, by decide +kernel⟩
theorem vX11_spell : mVirt mX11_spell := ⟨(lw_use_in (u7 (List.mem_of_getElem? (i := 31) rfl)) rfl), (lw_use_in (u7 (List.mem_of_getElem? (i := 32) rfl)) rfl)⟩
def mX11_spellTask : mM := (yX11_spellTask, cX11_spellTask, 2, some FieldType.int)
theorem qX11_spellTask : mMeth mX11_spellTask 1 := ⟨(lw_use_in (u7 (List.mem_of_getElem? (i := 41) rfl)) rfl), (lw_use_in (u1 (List.mem_of_getElem? (i := 11) rfl)) rfl), ⟨by decide +kernel, by decide +kernel⟩, Nat.le_of_ble_eq_true rfl, by decide +kernel⟩
theorem vX11_spellTask : mVirt mX11_spellTask := ⟨(lw_use_in (u7 (List.mem_of_getElem? (i := 39) rfl)) rfl), (lw_use_in (u7 (List.mem_of_getElem? (i := 40) rfl)) rfl)⟩
def mX11_paper : mM := (yX11_paper, cX11_paper, 2, some FieldType.int)
theorem qX11_paper : mMeth mX11_paper 1 := ⟨(lw_use_in (u7 (List.mem_of_getElem? (i := 45) rfl)) rfl), (lw_use_in (u1 (List.mem_of_getElem? (i := 11) rfl)) rfl), ⟨by decide +kernel, by decide +kernel⟩, Nat.le_of_ble_eq_true rfl, by decide +kernel⟩
theorem vX11_paper : mVirt mX11_paper := ⟨(lw_use_in (u7 (List.mem_of_getElem? (i := 43) rfl)) rfl), (lw_use_in (u7 (List.mem_of_getElem? (i := 44) rfl)) rfl)⟩
def mX11_isRow : mM := (yX11_isRow, cX11_isRow, 1, some FieldType.boolean)
theorem qX11_isRow : mMeth mX11_isRow 1 := ⟨(lw_use_in (u7 (List.mem_of_getElem? (i := 52) rfl)) rfl), (lw_use_in (u1 (List.mem_of_getElem? (i := 11) rfl)) rfl), ⟨by decide +kernel, by decide +kernel⟩, Nat.le_of_ble_eq_true rfl, by decide +kernel⟩
theorem sX11_isRow : Cond.static yX11_isRow ∈ lw_use := (lw_use_in (u7 (List.mem_of_getElem? (i := 51) rfl)) rfl)
def mX11_wrong : mM := (yX11_wrong, cX11_wrong, 2, some FieldType.int)
theorem qX11_wrong : mMeth mX11_wrong 1 := ⟨(lw_use_in (u7 (List.mem_of_getElem? (i := 60) rfl)) rfl), (lw_use_in (u1 (List.mem_of_getElem? (i := 11) rfl)) rfl), ⟨by decide +kernel, by decide +kernel⟩, Nat.le_of_ble_eq_true rfl, by decide +kernel⟩
theorem vX11_wrong : mVirt mX11_wrong := ⟨(lw_use_in (u7 (List.mem_of_getElem? (i := 59) rfl)) rfl), (lw_use_in (u0 (List.mem_of_getElem? (i := 106) rfl)) rfl)⟩
def mX11_row : mM := (yX11_row, cX11_row, 4, some FieldType.int)
theorem qX11_row : mMeth mX11_row 2 := ⟨(lw_use_in (u7 (List.mem_of_getElem? (i := 49) rfl)) rfl), (lw_use_in (u1 (List.mem_of_getElem? (i := 11) rfl)) rfl), ⟨by decide +kernel, by decide +kernel⟩, Nat.le_of_ble_eq_true rfl, by decide +kernel⟩
theorem vX11_row : mVirt mX11_row := ⟨(lw_use_in (u7 (List.mem_of_getElem? (i := 47) rfl)) rfl), (lw_use_in (u7 (List.mem_of_getElem? (i := 48) rfl)) rfl)⟩
def mX11_set : mM := (yX11_set, cX11_set, 5, some FieldType.int)
theorem qX11_set : mMeth mX11_set 3 := ⟨(lw_use_in (u7 (List.mem_of_getElem? (i := 56) rfl)) rfl), (lw_use_in (u1 (List.mem_of_getElem? (i := 11) rfl)) rfl), ⟨by decide +kernel, by decide +kernel⟩, Nat.le_of_ble_eq_true rfl, by decide +kernel⟩
theorem vX11_set : mVirt mX11_set := ⟨(lw_use_in (u7 (List.mem_of_getElem? (i := 54) rfl)) rfl), (lw_use_in (u7 (List.mem_of_getElem? (i := 55) rfl)) rfl)⟩
def mX11_get : mM := (yX11_get, cX11_get, 3, some FieldType.long)
theorem qX11_get : mMeth mX11_get 2 := ⟨(lw_use_in (u7 (List.mem_of_getElem? (i := 64) rfl)) rfl), (lw_use_in (u1 (List.mem_of_getElem? (i := 11) rfl)) rfl), ⟨by decide +kernel, by decide +kernel⟩, Nat.le_of_ble_eq_true rfl, by decide +kernel⟩
theorem vX11_get : mVirt mX11_get := ⟨(lw_use_in (u7 (List.mem_of_getElem? (i := 62) rfl)) rfl), (lw_use_in (u7 (List.mem_of_getElem? (i := 63) rfl)) rfl)⟩
def mX11_copy : mM := (yX11_copy, cX11_copy, 8, some FieldType.int)
theorem qX11_copy : mMeth mX11_copy 5 := ⟨(lw_use_in (u7 (List.mem_of_getElem? (i := 68) rfl)) rfl), (lw_use_in (u1 (List.mem_of_getElem? (i := 11) rfl)) rfl), ⟨by decide +kernel, by decide +kernel⟩, Nat.le_of_ble_eq_true rfl, by decide +kernel⟩
theorem vX11_copy : mVirt mX11_copy := ⟨(lw_use_in (u7 (List.mem_of_getElem? (i := 66) rfl)) rfl), (lw_use_in (u7 (List.mem_of_getElem? (i := 67) rfl)) rfl)⟩
def mX11_lay : mM := (yX11_lay, cX11_lay, 5, some FieldType.int)
theorem qX11_lay : mMeth mX11_lay 2 := ⟨(lw_use_in (u7 (List.mem_of_getElem? (i := 72) rfl)) rfl), (lw_use_in (u1 (List.mem_of_getElem? (i := 11) rfl)) rfl), ⟨by decide +kernel, by decide +kernel⟩, Nat.le_of_ble_eq_true rfl, by decide +kernel⟩
theorem vX11_lay : mVirt mX11_lay := ⟨(lw_use_in (u7 (List.mem_of_getElem? (i := 70) rfl)) rfl), (lw_use_in (u7 (List.mem_of_getElem? (i := 71) rfl)) rfl)⟩
def mX11_judge : mM := (yX11_judge, cX11_judge, 5, some FieldType.int)
theorem qX11_judge : mMeth mX11_judge 2 := ⟨(lw_use_in (u7 (List.mem_of_getElem? (i := 76) rfl)) rfl), (lw_use_in (u1 (List.mem_of_getElem? (i := 11) rfl)) rfl), ⟨by decide +kernel, by decide +kernel⟩, Nat.le_of_ble_eq_true rfl, by decide +kernel⟩
theorem vX11_judge : mVirt mX11_judge := ⟨(lw_use_in (u7 (List.mem_of_getElem? (i := 74) rfl)) rfl), (lw_use_in (u7 (List.mem_of_getElem? (i := 75) rfl)) rfl)⟩
def mX11_image : mM := (yX11_image, cX11_image, 1, some FieldType.int)
theorem qX11_image : mMeth mX11_image 0 := ⟨(lw_use_in (u7 (List.mem_of_getElem? (i := 80) rfl)) rfl), (lw_use_in (u1 (List.mem_of_getElem? (i := 11) rfl)) rfl), ⟨by decide +kernel, by decide +kernel⟩, Nat.le_of_ble_eq_true rfl, by decide +kernel⟩
theorem vX11_image : mVirt mX11_image := ⟨(lw_use_in (u7 (List.mem_of_getElem? (i := 78) rfl)) rfl), (lw_use_in (u7 (List.mem_of_getElem? (i := 79) rfl)) rfl)⟩
def mX11_undo : mM := (yX11_undo, cX11_undo, 1, some FieldType.int)
theorem qX11_undo : mMeth mX11_undo 0 := ⟨(lw_use_in (u7 (List.mem_of_getElem? (i := 84) rfl)) rfl), (lw_use_in (u1 (List.mem_of_getElem? (i := 11) rfl)) rfl), ⟨by decide +kernel, by decide +kernel⟩, Nat.le_of_ble_eq_true rfl, by decide +kernel⟩
theorem vX11_undo : mVirt mX11_undo := ⟨(lw_use_in (u7 (List.mem_of_getElem? (i := 82) rfl)) rfl), (lw_use_in (u7 (List.mem_of_getElem? (i := 83) rfl)) rfl)⟩
theorem fX1_7 : mFld RX1 7 1 0 (.array .int) true := ⟨_, rfl, by decide, (lw_use_in (u1 (List.mem_of_getElem? (i := 34) rfl)) rfl), tyX1_ok 0 (by decide), rfl⟩
theorem fX2_65 : mFld RX2 65 1 0 (.array .int) true := ⟨_, rfl, by decide, (lw_use_in (u1 (List.mem_of_getElem? (i := 35) rfl)) rfl), tyX1_ok 0 (by decide), rfl⟩
theorem fX10_296 : mFld RX10 296 1 0 (.array .int) true := ⟨_, rfl, by decide, (lw_use_in (u1 (List.mem_of_getElem? (i := 36) rfl)) rfl), tyX1_ok 0 (by decide), rfl⟩
theorem fX10_55 : mFld RX10 55 1 1 .int false := ⟨_, rfl, by decide, (lw_use_in (u1 (List.mem_of_getElem? (i := 37) rfl)) rfl), tyX1_ok 1 (by decide), rfl⟩
theorem fX5_20 : mFld RX5 20 1 1 .int false := ⟨_, rfl, by decide, (lw_use_in (u1 (List.mem_of_getElem? (i := 38) rfl)) rfl), tyX1_ok 1 (by decide), rfl⟩
theorem fX1_13 : mFld RX1 13 1 1 .int false := ⟨_, rfl, by decide, (lw_use_in (u1 (List.mem_of_getElem? (i := 39) rfl)) rfl), tyX1_ok 1 (by decide), rfl⟩
theorem fX0_30 : mFld RX0 30 1 1 .int false := ⟨_, rfl, by decide, (lw_use_in (u1 (List.mem_of_getElem? (i := 40) rfl)) rfl), tyX1_ok 1 (by decide), rfl⟩
theorem fX3_88 : mFld RX3 88 1 1 .int false := ⟨_, rfl, by decide, (lw_use_in (u1 (List.mem_of_getElem? (i := 41) rfl)) rfl), tyX1_ok 1 (by decide), rfl⟩
theorem fX2_62 : mFld RX2 62 1 1 .int false := ⟨_, rfl, by decide, (lw_use_in (u1 (List.mem_of_getElem? (i := 42) rfl)) rfl), tyX1_ok 1 (by decide), rfl⟩
theorem fX9_144 : mFld RX9 144 1 1 .int false := ⟨_, rfl, by decide, (lw_use_in (u1 (List.mem_of_getElem? (i := 43) rfl)) rfl), tyX1_ok 1 (by decide), rfl⟩
theorem fX2_14 : mFld RX2 14 2 0 (.object "ScopeWarden$Ints") true := ⟨_, rfl, by decide, (lw_use_in (u1 (List.mem_of_getElem? (i := 50) rfl)) rfl), tyX2_ok 0 (by decide), rfl⟩
theorem fX10_18 : mFld RX10 18 2 0 (.object "ScopeWarden$Ints") true := ⟨_, rfl, by decide, (lw_use_in (u1 (List.mem_of_getElem? (i := 51) rfl)) rfl), tyX2_ok 0 (by decide), rfl⟩
theorem fX2_53 : mFld RX2 53 2 1 .int false := ⟨_, rfl, by decide, (lw_use_in (u1 (List.mem_of_getElem? (i := 52) rfl)) rfl), tyX2_ok 1 (by decide), rfl⟩
theorem fX2_49 : mFld RX2 49 2 2 .int false := ⟨_, rfl, by decide, (lw_use_in (u1 (List.mem_of_getElem? (i := 53) rfl)) rfl), tyX2_ok 2 (by decide), rfl⟩
theorem fX10_116 : mFld RX10 116 2 2 .int false := ⟨_, rfl, by decide, (lw_use_in (u1 (List.mem_of_getElem? (i := 54) rfl)) rfl), tyX2_ok 2 (by decide), rfl⟩
theorem fX2_59 : mFld RX2 59 2 3 .int false := ⟨_, rfl, by decide, (lw_use_in (u1 (List.mem_of_getElem? (i := 55) rfl)) rfl), tyX2_ok 3 (by decide), rfl⟩
theorem fX5_14 : mFld RX5 14 5 0 (.object "ScopeWarden$Ints") true := ⟨_, rfl, by decide, (lw_use_in (u1 (List.mem_of_getElem? (i := 73) rfl)) rfl), tyX5_ok 0 (by decide), rfl⟩
theorem fX10_30 : mFld RX10 30 5 0 (.object "ScopeWarden$Ints") true := ⟨_, rfl, by decide, (lw_use_in (u1 (List.mem_of_getElem? (i := 74) rfl)) rfl), tyX5_ok 0 (by decide), rfl⟩
theorem fX0_14 : mFld RX0 14 0 0 (.object "ScopeWarden$Ints") true := ⟨_, rfl, by decide, (lw_use_in (u1 (List.mem_of_getElem? (i := 108) rfl)) rfl), tyX0_ok 0 (by decide), rfl⟩
theorem fX9_203 : mFld RX9 203 0 0 (.object "ScopeWarden$Ints") true := ⟨_, rfl, by decide, (lw_use_in (u1 (List.mem_of_getElem? (i := 109) rfl)) rfl), tyX0_ok 0 (by decide), rfl⟩
theorem fX0_20 : mFld RX0 20 0 1 (.object "ScopeWarden$Ints") true := ⟨_, rfl, by decide, (lw_use_in (u1 (List.mem_of_getElem? (i := 110) rfl)) rfl), tyX0_ok 1 (by decide), rfl⟩
theorem fX9_209 : mFld RX9 209 0 1 (.object "ScopeWarden$Ints") true := ⟨_, rfl, by decide, (lw_use_in (u1 (List.mem_of_getElem? (i := 111) rfl)) rfl), tyX0_ok 1 (by decide), rfl⟩
theorem fX0_23 : mFld RX0 23 0 2 (.object "ScopeWarden$Ints") true := ⟨_, rfl, by decide, (lw_use_in (u1 (List.mem_of_getElem? (i := 112) rfl)) rfl), tyX0_ok 2 (by decide), rfl⟩
theorem fX0_34 : mFld RX0 34 0 3 .int false := ⟨_, rfl, by decide, (lw_use_in (u1 (List.mem_of_getElem? (i := 113) rfl)) rfl), tyX0_ok 3 (by decide), rfl⟩
theorem fX8_7 : mFld RX8 7 8 0 .long false := ⟨_, rfl, by decide, (lw_use_in (u1 (List.mem_of_getElem? (i := 128) rfl)) rfl), tyX8_ok 0 (by decide), rfl⟩
theorem fX9_106 : mFld RX9 106 8 0 .long false := ⟨_, rfl, by decide, (lw_use_in (u1 (List.mem_of_getElem? (i := 129) rfl)) rfl), tyX8_ok 0 (by decide), rfl⟩
theorem fX10_186 : mFld RX10 186 8 0 .long false := ⟨_, rfl, by decide, (lw_use_in (u1 (List.mem_of_getElem? (i := 130) rfl)) rfl), tyX8_ok 0 (by decide), rfl⟩
theorem fX8_13 : mFld RX8 13 8 1 (.object "ScopeWarden$Step") false := ⟨_, rfl, by decide, (lw_use_in (u1 (List.mem_of_getElem? (i := 131) rfl)) rfl), tyX8_ok 1 (by decide), rfl⟩
theorem fX10_69 : mFld RX10 69 8 1 (.object "ScopeWarden$Step") false := ⟨_, rfl, by decide, (lw_use_in (u1 (List.mem_of_getElem? (i := 132) rfl)) rfl), tyX8_ok 1 (by decide), rfl⟩
theorem fX3_117 : mFld RX3 117 8 1 (.object "ScopeWarden$Step") false := ⟨_, rfl, by decide, (lw_use_in (u1 (List.mem_of_getElem? (i := 133) rfl)) rfl), tyX8_ok 1 (by decide), rfl⟩
theorem fX9_111 : mFld RX9 111 8 1 (.object "ScopeWarden$Step") false := ⟨_, rfl, by decide, (lw_use_in (u1 (List.mem_of_getElem? (i := 134) rfl)) rfl), tyX8_ok 1 (by decide), rfl⟩
theorem fX3_121 : mFld RX3 121 8 2 (.object "ScopeWarden$Step") false := ⟨_, rfl, by decide, (lw_use_in (u1 (List.mem_of_getElem? (i := 135) rfl)) rfl), tyX8_ok 2 (by decide), rfl⟩
theorem fX8_17 : mFld RX8 17 8 3 .int false := ⟨_, rfl, by decide, (lw_use_in (u1 (List.mem_of_getElem? (i := 136) rfl)) rfl), tyX8_ok 3 (by decide), rfl⟩
theorem fX3_114 : mFld RX3 114 8 3 .int false := ⟨_, rfl, by decide, (lw_use_in (u1 (List.mem_of_getElem? (i := 137) rfl)) rfl), tyX8_ok 3 (by decide), rfl⟩
theorem fX10_136 : mFld RX10 136 8 3 .int false := ⟨_, rfl, by decide, (lw_use_in (u1 (List.mem_of_getElem? (i := 138) rfl)) rfl), tyX8_ok 3 (by decide), rfl⟩
theorem fX9_114 : mFld RX9 114 8 3 .int false := ⟨_, rfl, by decide, (lw_use_in (u1 (List.mem_of_getElem? (i := 139) rfl)) rfl), tyX8_ok 3 (by decide), rfl⟩
theorem fX8_21 : mFld RX8 21 8 4 .int false := ⟨_, rfl, by decide, (lw_use_in (u1 (List.mem_of_getElem? (i := 140) rfl)) rfl), tyX8_ok 4 (by decide), rfl⟩
theorem fX9_117 : mFld RX9 117 8 4 .int false := ⟨_, rfl, by decide, (lw_use_in (u1 (List.mem_of_getElem? (i := 141) rfl)) rfl), tyX8_ok 4 (by decide), rfl⟩
theorem fX3_144 : mFld RX3 144 8 4 .int false := ⟨_, rfl, by decide, (lw_use_in (u1 (List.mem_of_getElem? (i := 142) rfl)) rfl), tyX8_ok 4 (by decide), rfl⟩
theorem fX10_177 : mFld RX10 177 8 4 .int false := ⟨_, rfl, by decide, (lw_use_in (u1 (List.mem_of_getElem? (i := 143) rfl)) rfl), tyX8_ok 4 (by decide), rfl⟩
theorem fX8_24 : mFld RX8 24 8 5 .int false := ⟨_, rfl, by decide, (lw_use_in (u1 (List.mem_of_getElem? (i := 144) rfl)) rfl), tyX8_ok 5 (by decide), rfl⟩
theorem fX3_130 : mFld RX3 130 8 5 .int false := ⟨_, rfl, by decide, (lw_use_in (u1 (List.mem_of_getElem? (i := 145) rfl)) rfl), tyX8_ok 5 (by decide), rfl⟩
theorem fX9_120 : mFld RX9 120 8 5 .int false := ⟨_, rfl, by decide, (lw_use_in (u1 (List.mem_of_getElem? (i := 146) rfl)) rfl), tyX8_ok 5 (by decide), rfl⟩
theorem fX10_180 : mFld RX10 180 8 5 .int false := ⟨_, rfl, by decide, (lw_use_in (u1 (List.mem_of_getElem? (i := 147) rfl)) rfl), tyX8_ok 5 (by decide), rfl⟩
theorem fX4_7 : mFld RX4 7 4 0 .int false := ⟨_, rfl, by decide, (lw_use_in (u1 (List.mem_of_getElem? (i := 166) rfl)) rfl), tyX4_ok 0 (by decide), rfl⟩
theorem fX10_99 : mFld RX10 99 4 0 .int false := ⟨_, rfl, by decide, (lw_use_in (u1 (List.mem_of_getElem? (i := 167) rfl)) rfl), tyX4_ok 0 (by decide), rfl⟩
theorem fX3_107 : mFld RX3 107 4 0 .int false := ⟨_, rfl, by decide, (lw_use_in (u1 (List.mem_of_getElem? (i := 168) rfl)) rfl), tyX4_ok 0 (by decide), rfl⟩
theorem fX9_127 : mFld RX9 127 4 0 .int false := ⟨_, rfl, by decide, (lw_use_in (u1 (List.mem_of_getElem? (i := 169) rfl)) rfl), tyX4_ok 0 (by decide), rfl⟩
theorem fX9_65 : mFld RX9 65 4 1 .int false := ⟨_, rfl, by decide, (lw_use_in (u1 (List.mem_of_getElem? (i := 170) rfl)) rfl), tyX4_ok 1 (by decide), rfl⟩
theorem fX4_13 : mFld RX4 13 4 1 .int false := ⟨_, rfl, by decide, (lw_use_in (u1 (List.mem_of_getElem? (i := 171) rfl)) rfl), tyX4_ok 1 (by decide), rfl⟩
theorem fX3_175 : mFld RX3 175 4 1 .int false := ⟨_, rfl, by decide, (lw_use_in (u1 (List.mem_of_getElem? (i := 172) rfl)) rfl), tyX4_ok 1 (by decide), rfl⟩
theorem fX10_155 : mFld RX10 155 4 1 .int false := ⟨_, rfl, by decide, (lw_use_in (u1 (List.mem_of_getElem? (i := 173) rfl)) rfl), tyX4_ok 1 (by decide), rfl⟩
theorem fX9_68 : mFld RX9 68 4 2 .int false := ⟨_, rfl, by decide, (lw_use_in (u1 (List.mem_of_getElem? (i := 174) rfl)) rfl), tyX4_ok 2 (by decide), rfl⟩
theorem fX4_16 : mFld RX4 16 4 2 .int false := ⟨_, rfl, by decide, (lw_use_in (u1 (List.mem_of_getElem? (i := 175) rfl)) rfl), tyX4_ok 2 (by decide), rfl⟩
theorem fX10_164 : mFld RX10 164 4 2 .int false := ⟨_, rfl, by decide, (lw_use_in (u1 (List.mem_of_getElem? (i := 176) rfl)) rfl), tyX4_ok 2 (by decide), rfl⟩
theorem fX7_9 : mFld RX7 9 7 0 (.object "ScopeWarden$Step") false := ⟨_, rfl, by decide, (lw_use_in (u1 (List.mem_of_getElem? (i := 189) rfl)) rfl), tyX7_ok 0 (by decide), rfl⟩
theorem fX10_83 : mFld RX10 83 7 0 (.object "ScopeWarden$Step") false := ⟨_, rfl, by decide, (lw_use_in (u1 (List.mem_of_getElem? (i := 190) rfl)) rfl), tyX7_ok 0 (by decide), rfl⟩
theorem fX7_15 : mFld RX7 15 7 1 (.object "ScopeWarden$Step") false := ⟨_, rfl, by decide, (lw_use_in (u1 (List.mem_of_getElem? (i := 191) rfl)) rfl), tyX7_ok 1 (by decide), rfl⟩
theorem fX3_162 : mFld RX3 162 7 1 (.object "ScopeWarden$Step") false := ⟨_, rfl, by decide, (lw_use_in (u1 (List.mem_of_getElem? (i := 192) rfl)) rfl), tyX7_ok 1 (by decide), rfl⟩
theorem fX7_18 : mFld RX7 18 7 2 .int false := ⟨_, rfl, by decide, (lw_use_in (u1 (List.mem_of_getElem? (i := 193) rfl)) rfl), tyX7_ok 2 (by decide), rfl⟩
theorem fX3_166 : mFld RX3 166 7 2 .int false := ⟨_, rfl, by decide, (lw_use_in (u1 (List.mem_of_getElem? (i := 194) rfl)) rfl), tyX7_ok 2 (by decide), rfl⟩
theorem fX10_267 : mFld RX10 267 7 2 .int false := ⟨_, rfl, by decide, (lw_use_in (u1 (List.mem_of_getElem? (i := 195) rfl)) rfl), tyX7_ok 2 (by decide), rfl⟩
theorem fX7_22 : mFld RX7 22 7 3 .int false := ⟨_, rfl, by decide, (lw_use_in (u1 (List.mem_of_getElem? (i := 196) rfl)) rfl), tyX7_ok 3 (by decide), rfl⟩
theorem fX3_81 : mFld RX3 81 7 3 .int false := ⟨_, rfl, by decide, (lw_use_in (u1 (List.mem_of_getElem? (i := 197) rfl)) rfl), tyX7_ok 3 (by decide), rfl⟩
theorem fX9_143 : mFld RX9 143 7 3 .int false := ⟨_, rfl, by decide, (lw_use_in (u1 (List.mem_of_getElem? (i := 198) rfl)) rfl), tyX7_ok 3 (by decide), rfl⟩
theorem fX10_230 : mFld RX10 230 7 3 .int false := ⟨_, rfl, by decide, (lw_use_in (u1 (List.mem_of_getElem? (i := 199) rfl)) rfl), tyX7_ok 3 (by decide), rfl⟩
theorem fX7_25 : mFld RX7 25 7 4 .int false := ⟨_, rfl, by decide, (lw_use_in (u1 (List.mem_of_getElem? (i := 200) rfl)) rfl), tyX7_ok 4 (by decide), rfl⟩
theorem fX10_258 : mFld RX10 258 7 4 .int false := ⟨_, rfl, by decide, (lw_use_in (u1 (List.mem_of_getElem? (i := 201) rfl)) rfl), tyX7_ok 4 (by decide), rfl⟩
theorem fX7_28 : mFld RX7 28 7 5 .int false := ⟨_, rfl, by decide, (lw_use_in (u1 (List.mem_of_getElem? (i := 202) rfl)) rfl), tyX7_ok 5 (by decide), rfl⟩
theorem fX3_64 : mFld RX3 64 7 5 .int false := ⟨_, rfl, by decide, (lw_use_in (u1 (List.mem_of_getElem? (i := 203) rfl)) rfl), tyX7_ok 5 (by decide), rfl⟩
theorem fX10_231 : mFld RX10 231 7 5 .int false := ⟨_, rfl, by decide, (lw_use_in (u1 (List.mem_of_getElem? (i := 204) rfl)) rfl), tyX7_ok 5 (by decide), rfl⟩
theorem fX7_31 : mFld RX7 31 7 6 .int false := ⟨_, rfl, by decide, (lw_use_in (u1 (List.mem_of_getElem? (i := 205) rfl)) rfl), tyX7_ok 6 (by decide), rfl⟩
theorem fX3_67 : mFld RX3 67 7 6 .int false := ⟨_, rfl, by decide, (lw_use_in (u1 (List.mem_of_getElem? (i := 206) rfl)) rfl), tyX7_ok 6 (by decide), rfl⟩
theorem fX7_34 : mFld RX7 34 7 7 .int false := ⟨_, rfl, by decide, (lw_use_in (u1 (List.mem_of_getElem? (i := 207) rfl)) rfl), tyX7_ok 7 (by decide), rfl⟩
theorem fX3_172 : mFld RX3 172 7 7 .int false := ⟨_, rfl, by decide, (lw_use_in (u1 (List.mem_of_getElem? (i := 208) rfl)) rfl), tyX7_ok 7 (by decide), rfl⟩
theorem fX10_261 : mFld RX10 261 7 7 .int false := ⟨_, rfl, by decide, (lw_use_in (u1 (List.mem_of_getElem? (i := 209) rfl)) rfl), tyX7_ok 7 (by decide), rfl⟩
theorem fX7_37 : mFld RX7 37 7 8 .int false := ⟨_, rfl, by decide, (lw_use_in (u1 (List.mem_of_getElem? (i := 210) rfl)) rfl), tyX7_ok 8 (by decide), rfl⟩
theorem fX3_74 : mFld RX3 74 7 8 .int false := ⟨_, rfl, by decide, (lw_use_in (u1 (List.mem_of_getElem? (i := 211) rfl)) rfl), tyX7_ok 8 (by decide), rfl⟩
theorem fX7_40 : mFld RX7 40 7 9 .int false := ⟨_, rfl, by decide, (lw_use_in (u1 (List.mem_of_getElem? (i := 212) rfl)) rfl), tyX7_ok 9 (by decide), rfl⟩
theorem fX3_163 : mFld RX3 163 7 9 .int false := ⟨_, rfl, by decide, (lw_use_in (u1 (List.mem_of_getElem? (i := 213) rfl)) rfl), tyX7_ok 9 (by decide), rfl⟩
theorem fX9_194 : mFld RX9 194 7 9 .int false := ⟨_, rfl, by decide, (lw_use_in (u1 (List.mem_of_getElem? (i := 214) rfl)) rfl), tyX7_ok 9 (by decide), rfl⟩
theorem fX7_43 : mFld RX7 43 7 10 .boolean false := ⟨_, rfl, by decide, (lw_use_in (u1 (List.mem_of_getElem? (i := 215) rfl)) rfl), tyX7_ok 10 (by decide), rfl⟩
theorem fX3_70 : mFld RX3 70 7 10 .boolean false := ⟨_, rfl, by decide, (lw_use_in (u1 (List.mem_of_getElem? (i := 216) rfl)) rfl), tyX7_ok 10 (by decide), rfl⟩
theorem fX10_254 : mFld RX10 254 7 10 .boolean false := ⟨_, rfl, by decide, (lw_use_in (u1 (List.mem_of_getElem? (i := 217) rfl)) rfl), tyX7_ok 10 (by decide), rfl⟩
theorem fX9_11 : mFld RX9 11 9 0 (.array (.object "ScopeWarden$Thing")) true := ⟨_, rfl, by decide, (lw_use_in (u2 (List.mem_of_getElem? (i := 9) rfl)) rfl), tyX9_ok 0 (by decide), rfl⟩
theorem fX9_19 : mFld RX9 19 9 1 (.array (.object "ScopeWarden$Scope")) true := ⟨_, rfl, by decide, (lw_use_in (u2 (List.mem_of_getElem? (i := 10) rfl)) rfl), tyX9_ok 1 (by decide), rfl⟩
theorem fX9_25 : mFld RX9 25 9 2 (.array (.object "ScopeWarden$Task")) true := ⟨_, rfl, by decide, (lw_use_in (u2 (List.mem_of_getElem? (i := 11) rfl)) rfl), tyX9_ok 2 (by decide), rfl⟩
theorem fX9_71 : mFld RX9 71 9 3 .int false := ⟨_, rfl, by decide, (lw_use_in (u2 (List.mem_of_getElem? (i := 12) rfl)) rfl), tyX9_ok 3 (by decide), rfl⟩
theorem fX10_221 : mFld RX10 221 9 3 .int false := ⟨_, rfl, by decide, (lw_use_in (u2 (List.mem_of_getElem? (i := 13) rfl)) rfl), tyX9_ok 3 (by decide), rfl⟩
theorem fX9_57 : mFld RX9 57 9 4 .int false := ⟨_, rfl, by decide, (lw_use_in (u2 (List.mem_of_getElem? (i := 14) rfl)) rfl), tyX9_ok 4 (by decide), rfl⟩
theorem fX10_273 : mFld RX10 273 9 4 .int false := ⟨_, rfl, by decide, (lw_use_in (u2 (List.mem_of_getElem? (i := 15) rfl)) rfl), tyX9_ok 4 (by decide), rfl⟩
theorem fX9_81 : mFld RX9 81 9 5 .int false := ⟨_, rfl, by decide, (lw_use_in (u2 (List.mem_of_getElem? (i := 16) rfl)) rfl), tyX9_ok 5 (by decide), rfl⟩
theorem fX10_279 : mFld RX10 279 9 5 .int false := ⟨_, rfl, by decide, (lw_use_in (u2 (List.mem_of_getElem? (i := 17) rfl)) rfl), tyX9_ok 5 (by decide), rfl⟩
theorem fX9_87 : mFld RX9 87 9 6 .int false := ⟨_, rfl, by decide, (lw_use_in (u2 (List.mem_of_getElem? (i := 18) rfl)) rfl), tyX9_ok 6 (by decide), rfl⟩
theorem fX3_61 : mFld RX3 61 9 6 .int false := ⟨_, rfl, by decide, (lw_use_in (u2 (List.mem_of_getElem? (i := 19) rfl)) rfl), tyX9_ok 6 (by decide), rfl⟩
theorem fX10_285 : mFld RX10 285 9 6 .int false := ⟨_, rfl, by decide, (lw_use_in (u2 (List.mem_of_getElem? (i := 20) rfl)) rfl), tyX9_ok 6 (by decide), rfl⟩
theorem fX9_34 : mFld RX9 34 9 7 (.object "ScopeWarden$Ints") true := ⟨_, rfl, by decide, (lw_use_in (u2 (List.mem_of_getElem? (i := 21) rfl)) rfl), tyX9_ok 7 (by decide), rfl⟩
theorem fX10_147 : mFld RX10 147 9 7 (.object "ScopeWarden$Ints") true := ⟨_, rfl, by decide, (lw_use_in (u2 (List.mem_of_getElem? (i := 22) rfl)) rfl), tyX9_ok 7 (by decide), rfl⟩
theorem fX3_178 : mFld RX3 178 9 7 (.object "ScopeWarden$Ints") true := ⟨_, rfl, by decide, (lw_use_in (u2 (List.mem_of_getElem? (i := 23) rfl)) rfl), tyX9_ok 7 (by decide), rfl⟩
theorem fX9_38 : mFld RX9 38 9 8 (.object "ScopeWarden$Ints") true := ⟨_, rfl, by decide, (lw_use_in (u2 (List.mem_of_getElem? (i := 24) rfl)) rfl), tyX9_ok 8 (by decide), rfl⟩
theorem fX3_127 : mFld RX3 127 9 8 (.object "ScopeWarden$Ints") true := ⟨_, rfl, by decide, (lw_use_in (u2 (List.mem_of_getElem? (i := 25) rfl)) rfl), tyX9_ok 8 (by decide), rfl⟩
theorem fX10_218 : mFld RX10 218 9 8 (.object "ScopeWarden$Ints") true := ⟨_, rfl, by decide, (lw_use_in (u2 (List.mem_of_getElem? (i := 26) rfl)) rfl), tyX9_ok 8 (by decide), rfl⟩
theorem fX9_41 : mFld RX9 41 9 9 (.object "ScopeWarden$Ints") true := ⟨_, rfl, by decide, (lw_use_in (u2 (List.mem_of_getElem? (i := 27) rfl)) rfl), tyX9_ok 9 (by decide), rfl⟩
theorem fX3_133 : mFld RX3 133 9 9 (.object "ScopeWarden$Ints") true := ⟨_, rfl, by decide, (lw_use_in (u2 (List.mem_of_getElem? (i := 28) rfl)) rfl), tyX9_ok 9 (by decide), rfl⟩
theorem fX9_47 : mFld RX9 47 9 10 (.object "ScopeWarden$Faults") true := ⟨_, rfl, by decide, (lw_use_in (u2 (List.mem_of_getElem? (i := 29) rfl)) rfl), tyX9_ok 10 (by decide), rfl⟩
theorem fX3_31 : mFld RX3 31 9 10 (.object "ScopeWarden$Faults") true := ⟨_, rfl, by decide, (lw_use_in (u2 (List.mem_of_getElem? (i := 30) rfl)) rfl), tyX9_ok 10 (by decide), rfl⟩
theorem fX3_12 : mFld RX3 12 3 0 (.object "ScopeWarden$World") true := ⟨_, rfl, by decide, (lw_use_in (u2 (List.mem_of_getElem? (i := 56) rfl)) rfl), tyX3_ok 0 (by decide), rfl⟩
theorem fX10_47 : mFld RX10 47 3 0 (.object "ScopeWarden$World") true := ⟨_, rfl, by decide, (lw_use_in (u2 (List.mem_of_getElem? (i := 57) rfl)) rfl), tyX3_ok 0 (by decide), rfl⟩
theorem fX3_23 : mFld RX3 23 3 1 (.object "ScopeWarden$Ints") true := ⟨_, rfl, by decide, (lw_use_in (u2 (List.mem_of_getElem? (i := 58) rfl)) rfl), tyX3_ok 1 (by decide), rfl⟩
theorem fX3_27 : mFld RX3 27 3 2 .int false := ⟨_, rfl, by decide, (lw_use_in (u2 (List.mem_of_getElem? (i := 59) rfl)) rfl), tyX3_ok 2 (by decide), rfl⟩
theorem fX10_12 : mFld RX10 12 10 0 (.object "ScopeWarden$Reader") true := ⟨_, rfl, by decide, (lw_use_in (u2 (List.mem_of_getElem? (i := 68) rfl)) rfl), tyX10_ok 0 (by decide), rfl⟩
theorem fX10_22 : mFld RX10 22 10 1 (.object "ScopeWarden$Ints") true := ⟨_, rfl, by decide, (lw_use_in (u2 (List.mem_of_getElem? (i := 69) rfl)) rfl), tyX10_ok 1 (by decide), rfl⟩
theorem fX10_26 : mFld RX10 26 10 2 (.object "ScopeWarden$Speller") true := ⟨_, rfl, by decide, (lw_use_in (u2 (List.mem_of_getElem? (i := 70) rfl)) rfl), tyX10_ok 2 (by decide), rfl⟩
theorem fX10_33 : mFld RX10 33 10 3 (.object "ScopeWarden$Ints") true := ⟨_, rfl, by decide, (lw_use_in (u2 (List.mem_of_getElem? (i := 71) rfl)) rfl), tyX10_ok 3 (by decide), rfl⟩
theorem fX10_36 : mFld RX10 36 10 4 (.array (.object "ScopeWarden$Ints")) true := ⟨_, rfl, by decide, (lw_use_in (u2 (List.mem_of_getElem? (i := 72) rfl)) rfl), tyX10_ok 4 (by decide), rfl⟩
theorem fX10_43 : mFld RX10 43 10 5 (.object "ScopeWarden$Runner") true := ⟨_, rfl, by decide, (lw_use_in (u2 (List.mem_of_getElem? (i := 73) rfl)) rfl), tyX10_ok 5 (by decide), rfl⟩
theorem fX10_51 : mFld RX10 51 10 6 (.object "ScopeWarden$World") true := ⟨_, rfl, by decide, (lw_use_in (u2 (List.mem_of_getElem? (i := 74) rfl)) rfl), tyX10_ok 6 (by decide), rfl⟩
theorem fX10_306 : mFld RX10 306 10 7 (.object "ScopeWarden$World") false := ⟨_, rfl, by decide, (lw_use_in (u2 (List.mem_of_getElem? (i := 75) rfl)) rfl), tyX10_ok 7 (by decide), rfl⟩
theorem fX10_314 : mFld RX10 314 10 8 (.object "ScopeWarden$Runner") false := ⟨_, rfl, by decide, (lw_use_in (u2 (List.mem_of_getElem? (i := 76) rfl)) rfl), tyX10_ok 8 (by decide), rfl⟩
theorem fX6_7 : mFld RX6 7 6 0 .int true := ⟨_, rfl, by decide, (lw_use_in (u2 (List.mem_of_getElem? (i := 205) rfl)) rfl), tyX6_ok 0 (by decide), rfl⟩
theorem fX5_41 : mFld RX5 41 6 0 .int true := ⟨_, rfl, by decide, (lw_use_in (u2 (List.mem_of_getElem? (i := 206) rfl)) rfl), tyX6_ok 0 (by decide), rfl⟩
theorem fX3_169 : mFld RX3 169 6 0 .int true := ⟨_, rfl, by decide, (lw_use_in (u2 (List.mem_of_getElem? (i := 207) rfl)) rfl), tyX6_ok 0 (by decide), rfl⟩
theorem fX5_47 : mFld RX5 47 6 1 .int false := ⟨_, rfl, by decide, (lw_use_in (u2 (List.mem_of_getElem? (i := 208) rfl)) rfl), tyX6_ok 1 (by decide), rfl⟩
theorem fX2_84 : mFld RX2 84 6 1 .int false := ⟨_, rfl, by decide, (lw_use_in (u2 (List.mem_of_getElem? (i := 209) rfl)) rfl), tyX6_ok 1 (by decide), rfl⟩
theorem fX3_181 : mFld RX3 181 6 1 .int false := ⟨_, rfl, by decide, (lw_use_in (u2 (List.mem_of_getElem? (i := 210) rfl)) rfl), tyX6_ok 1 (by decide), rfl⟩
theorem fX5_67 : mFld RX5 67 6 2 .int false := ⟨_, rfl, by decide, (lw_use_in (u2 (List.mem_of_getElem? (i := 211) rfl)) rfl), tyX6_ok 2 (by decide), rfl⟩
theorem fX2_90 : mFld RX2 90 6 2 .int false := ⟨_, rfl, by decide, (lw_use_in (u2 (List.mem_of_getElem? (i := 212) rfl)) rfl), tyX6_ok 2 (by decide), rfl⟩
theorem fX3_184 : mFld RX3 184 6 2 .int false := ⟨_, rfl, by decide, (lw_use_in (u2 (List.mem_of_getElem? (i := 213) rfl)) rfl), tyX6_ok 2 (by decide), rfl⟩
theorem fX2_30 : mFld RX2 30 6 3 .long false := ⟨_, rfl, by decide, (lw_use_in (u2 (List.mem_of_getElem? (i := 214) rfl)) rfl), tyX6_ok 3 (by decide), rfl⟩
theorem fX5_53 : mFld RX5 53 6 3 .long false := ⟨_, rfl, by decide, (lw_use_in (u2 (List.mem_of_getElem? (i := 215) rfl)) rfl), tyX6_ok 3 (by decide), rfl⟩
theorem fX10_122 : mFld RX10 122 6 3 .long false := ⟨_, rfl, by decide, (lw_use_in (u2 (List.mem_of_getElem? (i := 216) rfl)) rfl), tyX6_ok 3 (by decide), rfl⟩
theorem fX9_100 : mFld RX9 100 6 3 .long false := ⟨_, rfl, by decide, (lw_use_in (u2 (List.mem_of_getElem? (i := 217) rfl)) rfl), tyX6_ok 3 (by decide), rfl⟩
theorem fX3_197 : mFld RX3 197 6 3 .long false := ⟨_, rfl, by decide, (lw_use_in (u2 (List.mem_of_getElem? (i := 218) rfl)) rfl), tyX6_ok 3 (by decide), rfl⟩
theorem fX2_45 : mFld RX2 45 6 4 (.object "ScopeWarden$Step") false := ⟨_, rfl, by decide, (lw_use_in (u2 (List.mem_of_getElem? (i := 219) rfl)) rfl), tyX6_ok 4 (by decide), rfl⟩
theorem fX5_61 : mFld RX5 61 6 4 (.object "ScopeWarden$Step") false := ⟨_, rfl, by decide, (lw_use_in (u2 (List.mem_of_getElem? (i := 220) rfl)) rfl), tyX6_ok 4 (by decide), rfl⟩
theorem fX9_107 : mFld RX9 107 6 4 (.object "ScopeWarden$Step") false := ⟨_, rfl, by decide, (lw_use_in (u2 (List.mem_of_getElem? (i := 221) rfl)) rfl), tyX6_ok 4 (by decide), rfl⟩
theorem fX3_187 : mFld RX3 187 6 4 (.object "ScopeWarden$Step") false := ⟨_, rfl, by decide, (lw_use_in (u2 (List.mem_of_getElem? (i := 222) rfl)) rfl), tyX6_ok 4 (by decide), rfl⟩
theorem fX5_31 : mFld RX5 31 6 5 (.object "ScopeWarden$Step") false := ⟨_, rfl, by decide, (lw_use_in (u2 (List.mem_of_getElem? (i := 223) rfl)) rfl), tyX6_ok 5 (by decide), rfl⟩
theorem fX2_73 : mFld RX2 73 6 5 (.object "ScopeWarden$Step") false := ⟨_, rfl, by decide, (lw_use_in (u2 (List.mem_of_getElem? (i := 224) rfl)) rfl), tyX6_ok 5 (by decide), rfl⟩
theorem fX3_139 : mFld RX3 139 6 5 (.object "ScopeWarden$Step") false := ⟨_, rfl, by decide, (lw_use_in (u2 (List.mem_of_getElem? (i := 225) rfl)) rfl), tyX6_ok 5 (by decide), rfl⟩
theorem fX10_317 : mFld RX10 317 6 5 (.object "ScopeWarden$Step") false := ⟨_, rfl, by decide, (lw_use_in (u2 (List.mem_of_getElem? (i := 226) rfl)) rfl), tyX6_ok 5 (by decide), rfl⟩
theorem fX11_11 : mFld RX11 11 11 0 (.array .int) false := ⟨_, rfl, by decide, (lw_use_in (u5 (List.mem_of_getElem? (i := 50) rfl)) rfl), tyX11_ok 0 (by decide), rfl⟩
theorem fX11_15 : mFld RX11 15 11 1 (.array .int) false := ⟨_, rfl, by decide, (lw_use_in (u5 (List.mem_of_getElem? (i := 51) rfl)) rfl), tyX11_ok 1 (by decide), rfl⟩
theorem fX11_18 : mFld RX11 18 11 2 (.array .int) true := ⟨_, rfl, by decide, (lw_use_in (u5 (List.mem_of_getElem? (i := 52) rfl)) rfl), tyX11_ok 2 (by decide), rfl⟩
theorem fX11_21 : mFld RX11 21 11 3 (.array .int) true := ⟨_, rfl, by decide, (lw_use_in (u5 (List.mem_of_getElem? (i := 53) rfl)) rfl), tyX11_ok 3 (by decide), rfl⟩
theorem fX11_310 : mFld RX11 310 11 4 .boolean false := ⟨_, rfl, by decide, (lw_use_in (u5 (List.mem_of_getElem? (i := 54) rfl)) rfl), tyX11_ok 4 (by decide), rfl⟩
theorem fX11_24 : mFld RX11 24 11 5 (.array .int) true := ⟨_, rfl, by decide, (lw_use_in (u5 (List.mem_of_getElem? (i := 55) rfl)) rfl), tyX11_ok 5 (by decide), rfl⟩
theorem fX11_61 : mFld RX11 61 11 6 .int false := ⟨_, rfl, by decide, (lw_use_in (u5 (List.mem_of_getElem? (i := 56) rfl)) rfl), tyX11_ok 6 (by decide), rfl⟩
theorem fX11_27 : mFld RX11 27 11 7 (.array .int) false := ⟨_, rfl, by decide, (lw_use_in (u5 (List.mem_of_getElem? (i := 57) rfl)) rfl), tyX11_ok 7 (by decide), rfl⟩
theorem fX11_65 : mFld RX11 65 11 8 .int false := ⟨_, rfl, by decide, (lw_use_in (u5 (List.mem_of_getElem? (i := 58) rfl)) rfl), tyX11_ok 8 (by decide), rfl⟩
theorem fX11_68 : mFld RX11 68 11 9 .int false := ⟨_, rfl, by decide, (lw_use_in (u5 (List.mem_of_getElem? (i := 59) rfl)) rfl), tyX11_ok 9 (by decide), rfl⟩
theorem fX11_71 : mFld RX11 71 11 10 .int false := ⟨_, rfl, by decide, (lw_use_in (u5 (List.mem_of_getElem? (i := 60) rfl)) rfl), tyX11_ok 10 (by decide), rfl⟩
theorem fX11_81 : mFld RX11 81 11 11 .int false := ⟨_, rfl, by decide, (lw_use_in (u5 (List.mem_of_getElem? (i := 61) rfl)) rfl), tyX11_ok 11 (by decide), rfl⟩
theorem fX11_112 : mFld RX11 112 11 12 .int false := ⟨_, rfl, by decide, (lw_use_in (u5 (List.mem_of_getElem? (i := 62) rfl)) rfl), tyX11_ok 12 (by decide), rfl⟩
theorem fX11_99 : mFld RX11 99 11 13 .int false := ⟨_, rfl, by decide, (lw_use_in (u5 (List.mem_of_getElem? (i := 63) rfl)) rfl), tyX11_ok 13 (by decide), rfl⟩
theorem fX11_133 : mFld RX11 133 11 14 .int false := ⟨_, rfl, by decide, (lw_use_in (u5 (List.mem_of_getElem? (i := 64) rfl)) rfl), tyX11_ok 14 (by decide), rfl⟩
theorem fX11_30 : mFld RX11 30 11 15 (.array .int) true := ⟨_, rfl, by decide, (lw_use_in (u5 (List.mem_of_getElem? (i := 65) rfl)) rfl), tyX11_ok 15 (by decide), rfl⟩
theorem fX11_273 : mFld RX11 273 11 16 .int false := ⟨_, rfl, by decide, (lw_use_in (u5 (List.mem_of_getElem? (i := 66) rfl)) rfl), tyX11_ok 16 (by decide), rfl⟩
theorem fX11_33 : mFld RX11 33 11 17 (.array .int) true := ⟨_, rfl, by decide, (lw_use_in (u5 (List.mem_of_getElem? (i := 67) rfl)) rfl), tyX11_ok 17 (by decide), rfl⟩
theorem fX11_298 : mFld RX11 298 11 18 .int false := ⟨_, rfl, by decide, (lw_use_in (u5 (List.mem_of_getElem? (i := 68) rfl)) rfl), tyX11_ok 18 (by decide), rfl⟩
theorem fX11_36 : mFld RX11 36 11 19 (.array .int) true := ⟨_, rfl, by decide, (lw_use_in (u5 (List.mem_of_getElem? (i := 69) rfl)) rfl), tyX11_ok 19 (by decide), rfl⟩
theorem fX11_39 : mFld RX11 39 11 20 (.array .int) true := ⟨_, rfl, by decide, (lw_use_in (u5 (List.mem_of_getElem? (i := 70) rfl)) rfl), tyX11_ok 20 (by decide), rfl⟩
theorem kL_9 : mLk RL 9 mX10_init := Or.inl (lw_use_in (u1 (List.mem_of_getElem? (i := 16) rfl)) rfl)
theorem kX10_3 : Cond.methodLink RX10 3 Lib.objectInit ∈ lw_use := (lw_use_in (u1 (List.mem_of_getElem? (i := 19) rfl)) rfl)
theorem kX2_3 : Cond.methodLink RX2 3 Lib.objectInit ∈ lw_use := (lw_use_in (u1 (List.mem_of_getElem? (i := 27) rfl)) rfl)
theorem kX2_11 : mLk RX2 11 mX1_init := Or.inl (lw_use_in (u1 (List.mem_of_getElem? (i := 30) rfl)) rfl)
theorem kX1_1 : Cond.methodLink RX1 1 Lib.objectInit ∈ lw_use := (lw_use_in (u1 (List.mem_of_getElem? (i := 33) rfl)) rfl)
theorem kX5_3 : Cond.methodLink RX5 3 Lib.objectInit ∈ lw_use := (lw_use_in (u1 (List.mem_of_getElem? (i := 70) rfl)) rfl)
theorem kX5_11 : mLk RX5 11 mX1_init := Or.inl (lw_use_in (u1 (List.mem_of_getElem? (i := 72) rfl)) rfl)
theorem kX3_3 : Cond.methodLink RX3 3 Lib.objectInit ∈ lw_use := (lw_use_in (u1 (List.mem_of_getElem? (i := 85) rfl)) rfl)
theorem kX3_11 : mLk RX3 11 mX9_init := Or.inl (lw_use_in (u1 (List.mem_of_getElem? (i := 88) rfl)) rfl)
theorem kX9_3 : Cond.methodLink RX9 3 Lib.objectInit ∈ lw_use := (lw_use_in (u1 (List.mem_of_getElem? (i := 91) rfl)) rfl)
theorem kX9_31 : mLk RX9 31 mX1_init := Or.inl (lw_use_in (u1 (List.mem_of_getElem? (i := 99) rfl)) rfl)
theorem kX0_3 : Cond.methodLink RX0 3 Lib.objectInit ∈ lw_use := (lw_use_in (u1 (List.mem_of_getElem? (i := 105) rfl)) rfl)
theorem kX0_11 : mLk RX0 11 mX1_init := Or.inl (lw_use_in (u1 (List.mem_of_getElem? (i := 107) rfl)) rfl)
theorem kX8_1 : Cond.methodLink RX8 1 Lib.objectInit ∈ lw_use := (lw_use_in (u1 (List.mem_of_getElem? (i := 127) rfl)) rfl)
theorem kX4_1 : Cond.methodLink RX4 1 Lib.objectInit ∈ lw_use := (lw_use_in (u1 (List.mem_of_getElem? (i := 165) rfl)) rfl)
theorem kX7_3 : Cond.methodLink RX7 3 Lib.objectInit ∈ lw_use := (lw_use_in (u1 (List.mem_of_getElem? (i := 188) rfl)) rfl)
theorem kX9_54 : mLk RX9 54 mX1_becomeZeros := Or.inl (lw_use_in (u2 (List.mem_of_getElem? (i := 1) rfl)) rfl)
theorem kX9_61 : mLk RX9 61 mX9_scopeAt := Or.inl (lw_use_in (u2 (List.mem_of_getElem? (i := 5) rfl)) rfl)
theorem kX3_20 : mLk RX3 20 mX1_init := Or.inl (lw_use_in (u2 (List.mem_of_getElem? (i := 55) rfl)) rfl)
theorem kX10_52 : mLk RX10 52 mX1_init := Or.inl (lw_use_in (u2 (List.mem_of_getElem? (i := 67) rfl)) rfl)
theorem kL_13 : mLk RL 13 mX10_feed := Or.inl (lw_use_in (u2 (List.mem_of_getElem? (i := 96) rfl)) rfl)
theorem kX10_59 : mLk RX10 59 mX1_append := Or.inl (lw_use_in (u2 (List.mem_of_getElem? (i := 100) rfl)) rfl)
theorem kL_18 : mLk RL 18 mX10_clear := Or.inl (lw_use_in (u2 (List.mem_of_getElem? (i := 104) rfl)) rfl)
theorem kL_23 : mLk RL 23 mX10_spell := Or.inl (lw_use_in (u2 (List.mem_of_getElem? (i := 108) rfl)) rfl)
theorem kX10_63 : mLk RX10 63 mX9_thingAt := Or.inl (lw_use_in (u2 (List.mem_of_getElem? (i := 112) rfl)) rfl)
theorem kX10_75 : mLk RX10 75 mX5_write := Or.inl (lw_use_in (u2 (List.mem_of_getElem? (i := 116) rfl)) rfl)
theorem kX5_24 : mLk RX5 24 mX5_writeSteps := Or.inl (lw_use_in (u2 (List.mem_of_getElem? (i := 120) rfl)) rfl)
theorem kX5_28 : mLk RX5 28 mX5_writeStep := Or.inl (lw_use_in (u2 (List.mem_of_getElem? (i := 124) rfl)) rfl)
theorem kX5_37 : mLk RX5 37 mX1_append := Or.inl (lw_use_in (u2 (List.mem_of_getElem? (i := 128) rfl)) rfl)
theorem kX5_44 : mLk RX5 44 mX5_writeSetting := Or.inl (lw_use_in (u2 (List.mem_of_getElem? (i := 129) rfl)) rfl)
theorem kX5_50 : mLk RX5 50 mX5_writeNumber := Or.inl (lw_use_in (u2 (List.mem_of_getElem? (i := 133) rfl)) rfl)
theorem kX5_57 : mLk RX5 57 mX5_writeName := Or.inl (lw_use_in (u2 (List.mem_of_getElem? (i := 137) rfl)) rfl)
theorem kX10_190 : mLk RX10 190 mX10_letterOf := Or.inl (lw_use_in (u2 (List.mem_of_getElem? (i := 144) rfl)) rfl)
theorem kX5_64 : mLk RX5 64 mX5_writeCloser := Or.inl (lw_use_in (u2 (List.mem_of_getElem? (i := 148) rfl)) rfl)
theorem kL_27 : mLk RL 27 mX10_spellTask := Or.inl (lw_use_in (u2 (List.mem_of_getElem? (i := 152) rfl)) rfl)
theorem kX10_79 : mLk RX10 79 mX9_taskAt := Or.inl (lw_use_in (u2 (List.mem_of_getElem? (i := 156) rfl)) rfl)
theorem kL_31 : mLk RL 31 mX10_paper := Or.inl (lw_use_in (u2 (List.mem_of_getElem? (i := 160) rfl)) rfl)
theorem kX10_88 : mLk RX10 88 mX1_has := Or.inl (lw_use_in (u2 (List.mem_of_getElem? (i := 164) rfl)) rfl)
theorem kX10_91 : mLk RX10 91 mX1_at := Or.inl (lw_use_in (u2 (List.mem_of_getElem? (i := 168) rfl)) rfl)
theorem kX1_17 : mLk RX1 17 mX1_has := Or.inl (lw_use_in (u2 (List.mem_of_getElem? (i := 172) rfl)) rfl)
theorem kL_35 : mLk RL 35 mX10_open := Or.inl (lw_use_in (u2 (List.mem_of_getElem? (i := 173) rfl)) rfl)
theorem kX10_95 : mLk RX10 95 mX9_scopeAt := Or.inl (lw_use_in (u2 (List.mem_of_getElem? (i := 177) rfl)) rfl)
theorem kX10_104 : mLk RX10 104 mX9_scopesAreFull := Or.inl (lw_use_in (u2 (List.mem_of_getElem? (i := 178) rfl)) rfl)
theorem kX10_108 : mLk RX10 108 mX9_addScope := Or.inl (lw_use_in (u2 (List.mem_of_getElem? (i := 182) rfl)) rfl)
theorem kX9_123 : mLk RX9 123 mX1_append := Or.inl (lw_use_in (u2 (List.mem_of_getElem? (i := 186) rfl)) rfl)
theorem kL_39 : mLk RL 39 mX10_take := Or.inl (lw_use_in (u2 (List.mem_of_getElem? (i := 187) rfl)) rfl)
theorem kX10_112 : mLk RX10 112 mX2_readThing := Or.inl (lw_use_in (u2 (List.mem_of_getElem? (i := 191) rfl)) rfl)
theorem kX2_20 : mLk RX2 20 mX2_begin := Or.inl (lw_use_in (u2 (List.mem_of_getElem? (i := 195) rfl)) rfl)
theorem kX2_25 : mLk RX2 25 mX6_init := Or.inl (lw_use_in (u2 (List.mem_of_getElem? (i := 201) rfl)) rfl)
theorem kX6_1 : Cond.methodLink RX6 1 Lib.objectInit ∈ lw_use := (lw_use_in (u2 (List.mem_of_getElem? (i := 204) rfl)) rfl)
theorem kX2_26 : mLk RX2 26 mX2_readName := Or.inl (lw_use_in (u3 (List.mem_of_getElem? (i := 0) rfl)) rfl)
theorem kX2_34 : mLk RX2 34 mX2_here := Or.inl (lw_use_in (u3 (List.mem_of_getElem? (i := 4) rfl)) rfl)
theorem kX2_103 : mLk RX2 103 mX2_isLetter := Or.inl (lw_use_in (u3 (List.mem_of_getElem? (i := 8) rfl)) rfl)
theorem kX2_56 : mLk RX2 56 mX2_failAt := Or.inl (lw_use_in (u3 (List.mem_of_getElem? (i := 11) rfl)) rfl)
theorem kX2_38 : mLk RX2 38 mX2_expect := Or.inl (lw_use_in (u3 (List.mem_of_getElem? (i := 15) rfl)) rfl)
theorem kX2_41 : mLk RX2 41 mX2_readSteps := Or.inl (lw_use_in (u3 (List.mem_of_getElem? (i := 19) rfl)) rfl)
theorem kX2_69 : mLk RX2 69 mX2_readStep := Or.inl (lw_use_in (u3 (List.mem_of_getElem? (i := 23) rfl)) rfl)
theorem kX2_76 : mLk RX2 76 mX2_mayBegin := Or.inl (lw_use_in (u3 (List.mem_of_getElem? (i := 27) rfl)) rfl)
theorem kX2_80 : mLk RX2 80 mX2_readFigure := Or.inl (lw_use_in (u3 (List.mem_of_getElem? (i := 31) rfl)) rfl)
theorem kX2_87 : mLk RX2 87 mX2_readValue := Or.inl (lw_use_in (u3 (List.mem_of_getElem? (i := 35) rfl)) rfl)
theorem kX2_100 : mLk RX2 100 mX2_readFigures := Or.inl (lw_use_in (u3 (List.mem_of_getElem? (i := 39) rfl)) rfl)
theorem kX2_93 : mLk RX2 93 mX2_readFaultNumber := Or.inl (lw_use_in (u3 (List.mem_of_getElem? (i := 43) rfl)) rfl)
theorem kX2_96 : mLk RX2 96 mX2_readCloser := Or.inl (lw_use_in (u3 (List.mem_of_getElem? (i := 47) rfl)) rfl)
theorem kX10_119 : mLk RX10 119 mX9_thingsAreFull := Or.inl (lw_use_in (u3 (List.mem_of_getElem? (i := 51) rfl)) rfl)
theorem kX10_128 : mLk RX10 128 mX9_heldWithName := Or.inl (lw_use_in (u3 (List.mem_of_getElem? (i := 55) rfl)) rfl)
theorem kX10_132 : mLk RX10 132 mX9_addThing := Or.inl (lw_use_in (u3 (List.mem_of_getElem? (i := 59) rfl)) rfl)
theorem kX9_96 : mLk RX9 96 mX9_thingAt := Or.inl (lw_use_in (u3 (List.mem_of_getElem? (i := 63) rfl)) rfl)
theorem kL_43 : mLk RL 43 mX10_close := Or.inl (lw_use_in (u3 (List.mem_of_getElem? (i := 64) rfl)) rfl)
theorem kX10_137 : mLk RX10 137 mX3_endInCall := Or.inl (lw_use_in (u3 (List.mem_of_getElem? (i := 68) rfl)) rfl)
theorem kX3_35 : mLk RX3 35 mX0_beginCall := Or.inl (lw_use_in (u3 (List.mem_of_getElem? (i := 72) rfl)) rfl)
theorem kX3_40 : mLk RX3 40 mX3_beginToEnd := Or.inl (lw_use_in (u3 (List.mem_of_getElem? (i := 76) rfl)) rfl)
theorem kX3_103 : mLk RX3 103 mX9_scopeAt := Or.inl (lw_use_in (u3 (List.mem_of_getElem? (i := 80) rfl)) rfl)
theorem kX3_110 : mLk RX3 110 mX9_thingAt := Or.inl (lw_use_in (u3 (List.mem_of_getElem? (i := 81) rfl)) rfl)
theorem kX3_84 : mLk RX3 84 mX1_append := Or.inl (lw_use_in (u3 (List.mem_of_getElem? (i := 82) rfl)) rfl)
theorem kX3_43 : mLk RX3 43 mX3_work := Or.inl (lw_use_in (u3 (List.mem_of_getElem? (i := 83) rfl)) rfl)
theorem kX3_91 : mLk RX3 91 mX1_at := Or.inl (lw_use_in (u3 (List.mem_of_getElem? (i := 88) rfl)) rfl)
theorem kX3_94 : mLk RX3 94 mX3_goOnWithTask := Or.inl (lw_use_in (u3 (List.mem_of_getElem? (i := 89) rfl)) rfl)
theorem kX3_57 : mLk RX3 57 mX9_taskAt := Or.inl (lw_use_in (u3 (List.mem_of_getElem? (i := 93) rfl)) rfl)
theorem kX3_124 : mLk RX3 124 mX3_leave := Or.inl (lw_use_in (u3 (List.mem_of_getElem? (i := 94) rfl)) rfl)
theorem kX3_158 : mLk RX3 158 mX3_goOnShuttingScopesOf := Or.inl (lw_use_in (u3 (List.mem_of_getElem? (i := 98) rfl)) rfl)
theorem kX3_46 : mLk RX3 46 mX9_faultCount := Or.inl (lw_use_in (u3 (List.mem_of_getElem? (i := 102) rfl)) rfl)
theorem kX9_197 : mLk RX9 197 mX0_gatheredBy := Or.inl (lw_use_in (u3 (List.mem_of_getElem? (i := 106) rfl)) rfl)
theorem kX0_37 : mLk RX0 37 mX1_at := Or.inl (lw_use_in (u3 (List.mem_of_getElem? (i := 110) rfl)) rfl)
theorem kX9_200 : mLk RX9 200 mX9_ownFault := Or.inl (lw_use_in (u3 (List.mem_of_getElem? (i := 111) rfl)) rfl)
theorem kX9_128 : mLk RX9 128 mX9_taskAt := Or.inl (lw_use_in (u3 (List.mem_of_getElem? (i := 115) rfl)) rfl)
theorem kX3_147 : mLk RX3 147 mX3_perform := Or.inl (lw_use_in (u3 (List.mem_of_getElem? (i := 116) rfl)) rfl)
theorem kX3_189 : mLk RX3 189 mX1_put := Or.inl (lw_use_in (u3 (List.mem_of_getElem? (i := 120) rfl)) rfl)
theorem kX3_193 : mLk RX3 193 mX3_takeInto := Or.inl (lw_use_in (u3 (List.mem_of_getElem? (i := 124) rfl)) rfl)
theorem kX3_77 : mLk RX3 77 mX9_isOpen := Or.inl (lw_use_in (u3 (List.mem_of_getElem? (i := 128) rfl)) rfl)
theorem kX3_218 : mLk RX3 218 mX9_heldWithName := Or.inl (lw_use_in (u3 (List.mem_of_getElem? (i := 132) rfl)) rfl)
theorem kX3_221 : mLk RX3 221 mX9_thingsAreFull := Or.inl (lw_use_in (u3 (List.mem_of_getElem? (i := 133) rfl)) rfl)
theorem kX3_225 : mLk RX3 225 mX9_addThing := Or.inl (lw_use_in (u3 (List.mem_of_getElem? (i := 134) rfl)) rfl)
theorem kX3_201 : mLk RX3 201 mX3_closeNamed := Or.inl (lw_use_in (u3 (List.mem_of_getElem? (i := 135) rfl)) rfl)
theorem kX3_205 : mLk RX3 205 mX3_moveNamed := Or.inl (lw_use_in (u3 (List.mem_of_getElem? (i := 139) rfl)) rfl)
theorem kX3_228 : mLk RX3 228 mX9_moveThing := Or.inl (lw_use_in (u3 (List.mem_of_getElem? (i := 143) rfl)) rfl)
theorem kX9_140 : mLk RX9 140 mX1_drop := Or.inl (lw_use_in (u3 (List.mem_of_getElem? (i := 147) rfl)) rfl)
theorem kX3_209 : mLk RX3 209 mX3_askToCancel := Or.inl (lw_use_in (u3 (List.mem_of_getElem? (i := 151) rfl)) rfl)
theorem kX3_212 : mLk RX3 212 mX3_openInner := Or.inl (lw_use_in (u3 (List.mem_of_getElem? (i := 155) rfl)) rfl)
theorem kX3_231 : mLk RX3 231 mX9_scopesAreFull := Or.inl (lw_use_in (u3 (List.mem_of_getElem? (i := 159) rfl)) rfl)
theorem kX3_234 : mLk RX3 234 mX9_addScope := Or.inl (lw_use_in (u3 (List.mem_of_getElem? (i := 160) rfl)) rfl)
theorem kX3_215 : mLk RX3 215 mX3_shutInner := Or.inl (lw_use_in (u3 (List.mem_of_getElem? (i := 161) rfl)) rfl)
theorem kX3_97 : mLk RX3 97 mX3_goOnShutting := Or.inl (lw_use_in (u3 (List.mem_of_getElem? (i := 165) rfl)) rfl)
theorem kX3_155 : mLk RX3 155 mX9_lastToEnd := Or.inl (lw_use_in (u3 (List.mem_of_getElem? (i := 169) rfl)) rfl)
theorem kX9_147 : mLk RX9 147 mX1_at := Or.inl (lw_use_in (u3 (List.mem_of_getElem? (i := 173) rfl)) rfl)
theorem kX9_154 : mLk RX9 154 mX9_isOpen := Or.inl (lw_use_in (u3 (List.mem_of_getElem? (i := 174) rfl)) rfl)
theorem kX9_157 : mLk RX9 157 mX9_isHeld := Or.inl (lw_use_in (u3 (List.mem_of_getElem? (i := 175) rfl)) rfl)
theorem kX9_151 : mLk RX9 151 mX9_ownerOf := Or.inl (lw_use_in (u3 (List.mem_of_getElem? (i := 179) rfl)) rfl)
theorem kX3_136 : mLk RX3 136 mX1_drop := Or.inl (lw_use_in (u3 (List.mem_of_getElem? (i := 183) rfl)) rfl)
theorem kX3_100 : mLk RX3 100 mX3_goOnClosing := Or.inl (lw_use_in (u3 (List.mem_of_getElem? (i := 184) rfl)) rfl)
theorem kX3_151 : mLk RX3 151 mX0_gather := Or.inl (lw_use_in (u3 (List.mem_of_getElem? (i := 188) rfl)) rfl)
theorem kX0_26 : mLk RX0 26 mX1_append := Or.inl (lw_use_in (u3 (List.mem_of_getElem? (i := 192) rfl)) rfl)
theorem kL_47 : mLk RL 47 mX10_shut := Or.inl (lw_use_in (u3 (List.mem_of_getElem? (i := 193) rfl)) rfl)
theorem kL_51 : mLk RL 51 mX10_move := Or.inl (lw_use_in (u3 (List.mem_of_getElem? (i := 197) rfl)) rfl)
theorem kX10_140 : mLk RX10 140 mX9_moveThing := Or.inl (lw_use_in (u3 (List.mem_of_getElem? (i := 201) rfl)) rfl)
theorem kX10_144 : mLk RX10 144 mX9_entriesOf := Or.inl (lw_use_in (u3 (List.mem_of_getElem? (i := 202) rfl)) rfl)
theorem kL_56 : mLk RL 56 mX10_count := Or.inl (lw_use_in (u3 (List.mem_of_getElem? (i := 206) rfl)) rfl)
theorem kX10_150 : mLk RX10 150 mX1_put := Or.inl (lw_use_in (u3 (List.mem_of_getElem? (i := 210) rfl)) rfl)
theorem kL_60 : mLk RL 60 mX10_counter := Or.inl (lw_use_in (u3 (List.mem_of_getElem? (i := 211) rfl)) rfl)
theorem kL_65 : mLk RL 65 mX10_scope := Or.inl (lw_use_in (u3 (List.mem_of_getElem? (i := 216) rfl)) rfl)
theorem kX10_158 : mLk RX10 158 mX9_heldWithin := Or.inl (lw_use_in (u3 (List.mem_of_getElem? (i := 220) rfl)) rfl)
theorem kX9_164 : mLk RX9 164 mX9_isWithin := Or.inl (lw_use_in (u3 (List.mem_of_getElem? (i := 224) rfl)) rfl)
theorem kX10_161 : mLk RX10 161 mX9_scopesAbove := Or.inl (lw_use_in (u3 (List.mem_of_getElem? (i := 228) rfl)) rfl)
theorem kL_69 : mLk RL 69 mX10_below := Or.inl (lw_use_in (u3 (List.mem_of_getElem? (i := 232) rfl)) rfl)
theorem kX10_167 : mLk RX10 167 mX9_isWithin := Or.inl (lw_use_in (u3 (List.mem_of_getElem? (i := 236) rfl)) rfl)
theorem kL_73 : mLk RL 73 mX10_youngest := Or.inl (lw_use_in (u3 (List.mem_of_getElem? (i := 237) rfl)) rfl)
theorem kX10_171 : mLk RX10 171 mX9_youngestWithin := Or.inl (lw_use_in (u4 (List.mem_of_getElem? (i := 1) rfl)) rfl)
theorem kL_77 : mLk RL 77 mX10_entry := Or.inl (lw_use_in (u4 (List.mem_of_getElem? (i := 5) rfl)) rfl)
theorem kX10_174 : mLk RX10 174 mX9_entryAt := Or.inl (lw_use_in (u4 (List.mem_of_getElem? (i := 9) rfl)) rfl)
theorem kL_81 : mLk RL 81 mX10_thing := Or.inl (lw_use_in (u4 (List.mem_of_getElem? (i := 13) rfl)) rfl)
theorem kX10_183 : mLk RX10 183 mX10_stepsFrom := Or.inl (lw_use_in (u4 (List.mem_of_getElem? (i := 17) rfl)) rfl)
theorem kL_85 : mLk RL 85 mX10_name := Or.inl (lw_use_in (u4 (List.mem_of_getElem? (i := 20) rfl)) rfl)
theorem kX10_187 : mLk RX10 187 mX10_lettersOf := Or.inl (lw_use_in (u4 (List.mem_of_getElem? (i := 24) rfl)) rfl)
theorem kL_89 : mLk RL 89 mX10_find := Or.inl (lw_use_in (u4 (List.mem_of_getElem? (i := 25) rfl)) rfl)
theorem kX10_194 : mLk RX10 194 mX2_readWholeName := Or.inl (lw_use_in (u4 (List.mem_of_getElem? (i := 29) rfl)) rfl)
theorem kL_93 : mLk RL 93 mX10_from := Or.inl (lw_use_in (u4 (List.mem_of_getElem? (i := 33) rfl)) rfl)
theorem kX10_198 : mLk RX10 198 mX9_heldFrom := Or.inl (lw_use_in (u4 (List.mem_of_getElem? (i := 37) rfl)) rfl)
theorem kX9_168 : mLk RX9 168 mX9_nameOf := Or.inl (lw_use_in (u4 (List.mem_of_getElem? (i := 41) rfl)) rfl)
theorem kX9_172 : mLk RX9 172 mX9_isLess := Or.inl (lw_use_in (u4 (List.mem_of_getElem? (i := 45) rfl)) rfl)
theorem kL_97 : mLk RL 97 mX10_rename := Or.inl (lw_use_in (u4 (List.mem_of_getElem? (i := 49) rfl)) rfl)
theorem kL_101 : mLk RL 101 mX10_byName := Or.inl (lw_use_in (u4 (List.mem_of_getElem? (i := 53) rfl)) rfl)
theorem kX10_202 : mLk RX10 202 mX9_heldAtPlace := Or.inl (lw_use_in (u4 (List.mem_of_getElem? (i := 57) rfl)) rfl)
theorem kX9_180 : mLk RX9 180 mX9_heldAhead := Or.inl (lw_use_in (u4 (List.mem_of_getElem? (i := 61) rfl)) rfl)
theorem kL_105 : mLk RL 105 mX10_plan := Or.inl (lw_use_in (u4 (List.mem_of_getElem? (i := 65) rfl)) rfl)
theorem kX10_205 : mLk RX10 205 mX9_planned := Or.inl (lw_use_in (u4 (List.mem_of_getElem? (i := 69) rfl)) rfl)
theorem kX9_161 : mLk RX9 161 mX9_placeOfEntry := Or.inl (lw_use_in (u4 (List.mem_of_getElem? (i := 74) rfl)) rfl)
theorem kL_109 : mLk RL 109 mX10_would := Or.inl (lw_use_in (u4 (List.mem_of_getElem? (i := 78) rfl)) rfl)
theorem kX10_208 : mLk RX10 208 mX10_thinkerOfNow := Or.inl (lw_use_in (u4 (List.mem_of_getElem? (i := 82) rfl)) rfl)
theorem kX10_310 : mLk RX10 310 mX9_become := Or.inl (lw_use_in (u4 (List.mem_of_getElem? (i := 86) rfl)) rfl)
theorem kX9_74 : mLk RX9 74 mX8_become := Or.inl (lw_use_in (u4 (List.mem_of_getElem? (i := 90) rfl)) rfl)
theorem kX9_78 : mLk RX9 78 mX4_become := Or.inl (lw_use_in (u4 (List.mem_of_getElem? (i := 94) rfl)) rfl)
theorem kX9_84 : mLk RX9 84 mX7_become := Or.inl (lw_use_in (u4 (List.mem_of_getElem? (i := 98) rfl)) rfl)
theorem kX7_47 : mLk RX7 47 mX7_start := Or.inl (lw_use_in (u4 (List.mem_of_getElem? (i := 102) rfl)) rfl)
theorem kX9_90 : mLk RX9 90 mX1_become := Or.inl (lw_use_in (u4 (List.mem_of_getElem? (i := 106) rfl)) rfl)
theorem kX9_93 : mLk RX9 93 mX0_become := Or.inl (lw_use_in (u4 (List.mem_of_getElem? (i := 110) rfl)) rfl)
theorem kX0_41 : mLk RX0 41 mX1_become := Or.inl (lw_use_in (u4 (List.mem_of_getElem? (i := 114) rfl)) rfl)
theorem kX10_212 : mLk RX10 212 mX9_faultNumber := Or.inl (lw_use_in (u4 (List.mem_of_getElem? (i := 115) rfl)) rfl)
theorem kX9_206 : mLk RX9 206 mX0_placeOf := Or.inl (lw_use_in (u4 (List.mem_of_getElem? (i := 119) rfl)) rfl)
theorem kX10_215 : mLk RX10 215 mX9_faultThing := Or.inl (lw_use_in (u4 (List.mem_of_getElem? (i := 123) rfl)) rfl)
theorem kL_113 : mLk RL 113 mX10_trial := Or.inl (lw_use_in (u4 (List.mem_of_getElem? (i := 127) rfl)) rfl)
theorem kX10_224 : mLk RX10 224 mX3_tickUpTo := Or.inl (lw_use_in (u4 (List.mem_of_getElem? (i := 131) rfl)) rfl)
theorem kX3_50 : mLk RX3 50 mX3_beginTurn := Or.inl (lw_use_in (u4 (List.mem_of_getElem? (i := 135) rfl)) rfl)
theorem kX3_54 : mLk RX3 54 mX9_readyAtPlace := Or.inl (lw_use_in (u4 (List.mem_of_getElem? (i := 139) rfl)) rfl)
theorem kX9_184 : mLk RX9 184 mX9_isReady := Or.inl (lw_use_in (u4 (List.mem_of_getElem? (i := 143) rfl)) rfl)
theorem kX9_187 : mLk RX9 187 mX9_readyAhead := Or.inl (lw_use_in (u4 (List.mem_of_getElem? (i := 147) rfl)) rfl)
theorem kX9_190 : mLk RX9 190 mX7_comesAheadOf := Or.inl (lw_use_in (u4 (List.mem_of_getElem? (i := 151) rfl)) rfl)
theorem kX10_227 : mLk RX10 227 mX9_faultCount := Or.inl (lw_use_in (u4 (List.mem_of_getElem? (i := 155) rfl)) rfl)
theorem kL_118 : mLk RL 118 mX10_log := Or.inl (lw_use_in (u4 (List.mem_of_getElem? (i := 156) rfl)) rfl)
theorem kL_122 : mLk RL 122 mX10_fault := Or.inl (lw_use_in (u4 (List.mem_of_getElem? (i := 160) rfl)) rfl)
theorem kX10_234 : mLk RX10 234 mX10_faults := Or.inl (lw_use_in (u4 (List.mem_of_getElem? (i := 164) rfl)) rfl)
theorem kL_126 : mLk RL 126 mX10_faults := Or.inl (lw_use_in (u4 (List.mem_of_getElem? (i := 168) rfl)) rfl)
theorem kL_130 : mLk RL 130 mX10_task := Or.inl (lw_use_in (u4 (List.mem_of_getElem? (i := 169) rfl)) rfl)
theorem kX10_237 : mLk RX10 237 mX10_mayBePriority := Or.inl (lw_use_in (u4 (List.mem_of_getElem? (i := 173) rfl)) rfl)
theorem kX10_240 : mLk RX10 240 mX9_tasksAreFull := Or.inl (lw_use_in (u4 (List.mem_of_getElem? (i := 176) rfl)) rfl)
theorem kX10_243 : mLk RX10 243 mX2_readTask := Or.inl (lw_use_in (u4 (List.mem_of_getElem? (i := 180) rfl)) rfl)
theorem kX10_246 : mLk RX10 246 mX9_addTask := Or.inl (lw_use_in (u4 (List.mem_of_getElem? (i := 184) rfl)) rfl)
theorem kX9_132 : mLk RX9 132 mX9_addScope := Or.inl (lw_use_in (u4 (List.mem_of_getElem? (i := 188) rfl)) rfl)
theorem kX9_136 : mLk RX9 136 mX7_start := Or.inl (lw_use_in (u4 (List.mem_of_getElem? (i := 189) rfl)) rfl)
theorem kL_134 : mLk RL 134 mX10_tick := Or.inl (lw_use_in (u4 (List.mem_of_getElem? (i := 190) rfl)) rfl)
theorem kX10_250 : mLk RX10 250 mX3_tickOnce := Or.inl (lw_use_in (u4 (List.mem_of_getElem? (i := 194) rfl)) rfl)
theorem kL_138 : mLk RL 138 mX10_run := Or.inl (lw_use_in (u4 (List.mem_of_getElem? (i := 198) rfl)) rfl)
theorem kL_142 : mLk RL 142 mX10_cancel := Or.inl (lw_use_in (u4 (List.mem_of_getElem? (i := 202) rfl)) rfl)
theorem kL_146 : mLk RL 146 mX10_rank := Or.inl (lw_use_in (u4 (List.mem_of_getElem? (i := 206) rfl)) rfl)
theorem kL_150 : mLk RL 150 mX10_of := Or.inl (lw_use_in (u4 (List.mem_of_getElem? (i := 210) rfl)) rfl)
theorem kX10_264 : mLk RX10 264 mX9_scopesNotShutOf := Or.inl (lw_use_in (u4 (List.mem_of_getElem? (i := 214) rfl)) rfl)
theorem kL_154 : mLk RL 154 mX10_ready := Or.inl (lw_use_in (u4 (List.mem_of_getElem? (i := 218) rfl)) rfl)
theorem kX10_270 : mLk RX10 270 mX9_readyAtPlace := Or.inl (lw_use_in (u4 (List.mem_of_getElem? (i := 222) rfl)) rfl)
theorem kL_158 : mLk RL 158 mX10_told := Or.inl (lw_use_in (u4 (List.mem_of_getElem? (i := 223) rfl)) rfl)
theorem kX10_276 : mLk RX10 276 mX9_openScopes := Or.inl (lw_use_in (u4 (List.mem_of_getElem? (i := 227) rfl)) rfl)
theorem kX10_282 : mLk RX10 282 mX9_readyTasks := Or.inl (lw_use_in (u4 (List.mem_of_getElem? (i := 231) rfl)) rfl)
theorem kL_162 : mLk RL 162 mX10_row := Or.inl (lw_use_in (u4 (List.mem_of_getElem? (i := 235) rfl)) rfl)
theorem kX10_286 : mLk RX10 286 mX10_rowAt := Or.inl (lw_use_in (u4 (List.mem_of_getElem? (i := 239) rfl)) rfl)
theorem kX10_290 : mLk RX10 290 mX1_becomeZeros := Or.inl (lw_use_in (u5 (List.mem_of_getElem? (i := 3) rfl)) rfl)
theorem kL_166 : mLk RL 166 mX10_set := Or.inl (lw_use_in (u5 (List.mem_of_getElem? (i := 4) rfl)) rfl)
theorem kL_170 : mLk RL 170 mX10_get := Or.inl (lw_use_in (u5 (List.mem_of_getElem? (i := 8) rfl)) rfl)
theorem kL_175 : mLk RL 175 mX10_copy := Or.inl (lw_use_in (u5 (List.mem_of_getElem? (i := 12) rfl)) rfl)
theorem kX10_293 : mLk RX10 293 mX1_hasRange := Or.inl (lw_use_in (u5 (List.mem_of_getElem? (i := 16) rfl)) rfl)
theorem kX10_300 : Cond.methodLink RX10 300 arraycopyName ∈ lw_use := (lw_use_in (u5 (List.mem_of_getElem? (i := 20) rfl)) rfl)
theorem kL_180 : mLk RL 180 mX10_lay := Or.inl (lw_use_in (u5 (List.mem_of_getElem? (i := 23) rfl)) rfl)
theorem kL_184 : mLk RL 184 mX10_judge := Or.inl (lw_use_in (u5 (List.mem_of_getElem? (i := 27) rfl)) rfl)
theorem kL_188 : mLk RL 188 mX10_image := Or.inl (lw_use_in (u5 (List.mem_of_getElem? (i := 31) rfl)) rfl)
theorem kX10_309 : mLk RX10 309 mX9_init := Or.inl (lw_use_in (u5 (List.mem_of_getElem? (i := 36) rfl)) rfl)
theorem kL_192 : mLk RL 192 mX10_undo := Or.inl (lw_use_in (u5 (List.mem_of_getElem? (i := 37) rfl)) rfl)
theorem kL_12 : mLk RL 12 mX11_init := Or.inl (lw_use_in (u5 (List.mem_of_getElem? (i := 43) rfl)) rfl)
theorem kX11_5 : Cond.methodLink RX11 5 Lib.objectInit ∈ lw_use := (lw_use_in (u5 (List.mem_of_getElem? (i := 46) rfl)) rfl)
theorem kX11_42 : mLk RX11 42 mX11_ofScope := Or.inl (lw_use_in (u5 (List.mem_of_getElem? (i := 47) rfl)) rfl)
theorem kL_17 : mLk RL 17 mX11_feed := Or.inl (lw_use_in (u5 (List.mem_of_getElem? (i := 114) rfl)) rfl)
theorem kX11_46 : mLk RX11 46 mX11_isIn := Or.inl (lw_use_in (u5 (List.mem_of_getElem? (i := 118) rfl)) rfl)
theorem kL_22 : mLk RL 22 mX11_clear := Or.inl (lw_use_in (u5 (List.mem_of_getElem? (i := 121) rfl)) rfl)
theorem kL_137 : mLk RL 137 mX11_tick := Or.inl (lw_use_in (u5 (List.mem_of_getElem? (i := 125) rfl)) rfl)
theorem kX11_205 : mLk RX11 205 mX11_next := Or.inl (lw_use_in (u5 (List.mem_of_getElem? (i := 129) rfl)) rfl)
theorem kX11_183 : mLk RX11 183 mX11_isReady := Or.inl (lw_use_in (u5 (List.mem_of_getElem? (i := 133) rfl)) rfl)
theorem kX11_58 : mLk RX11 58 mX11_ofTask := Or.inl (lw_use_in (u5 (List.mem_of_getElem? (i := 137) rfl)) rfl)
theorem kX11_201 : mLk RX11 201 mX11_isAhead := Or.inl (lw_use_in (u5 (List.mem_of_getElem? (i := 140) rfl)) rfl)
theorem kX11_208 : mLk RX11 208 mX11_turn := Or.inl (lw_use_in (u5 (List.mem_of_getElem? (i := 144) rfl)) rfl)
theorem kX11_189 : mLk RX11 189 mX11_isFine := Or.inl (lw_use_in (u5 (List.mem_of_getElem? (i := 148) rfl)) rfl)
theorem kX11_146 : mLk RX11 146 mX11_isOpen := Or.inl (lw_use_in (u5 (List.mem_of_getElem? (i := 152) rfl)) rfl)
theorem kX11_50 : mLk RX11 50 mX11_isScope := Or.inl (lw_use_in (u5 (List.mem_of_getElem? (i := 156) rfl)) rfl)
theorem kX11_192 : mLk RX11 192 mX11_isOver := Or.inl (lw_use_in (u5 (List.mem_of_getElem? (i := 160) rfl)) rfl)
theorem kX11_157 : mLk RX11 157 mX11_shuts := Or.inl (lw_use_in (u5 (List.mem_of_getElem? (i := 164) rfl)) rfl)
theorem kX11_149 : mLk RX11 149 mX11_lastOf := Or.inl (lw_use_in (u5 (List.mem_of_getElem? (i := 168) rfl)) rfl)
theorem kX11_119 : mLk RX11 119 mX11_isHeld := Or.inl (lw_use_in (u5 (List.mem_of_getElem? (i := 172) rfl)) rfl)
theorem kX11_54 : mLk RX11 54 mX11_ofThing := Or.inl (lw_use_in (u5 (List.mem_of_getElem? (i := 176) rfl)) rfl)
theorem kX11_153 : mLk RX11 153 mX11_closes := Or.inl (lw_use_in (u5 (List.mem_of_getElem? (i := 179) rfl)) rfl)
theorem kX11_136 : mLk RX11 136 mX11_does := Or.inl (lw_use_in (u5 (List.mem_of_getElem? (i := 183) rfl)) rfl)
theorem kX11_171 : mLk RX11 171 mX11_numberAt := Or.inl (lw_use_in (u5 (List.mem_of_getElem? (i := 187) rfl)) rfl)
theorem kX11_174 : mLk RX11 174 mX11_taken := Or.inl (lw_use_in (u5 (List.mem_of_getElem? (i := 191) rfl)) rfl)
theorem kX11_160 : mLk RX11 160 mX11_nameEnd := Or.inl (lw_use_in (u5 (List.mem_of_getElem? (i := 195) rfl)) rfl)
theorem kX11_163 : mLk RX11 163 mX11_heldBy := Or.inl (lw_use_in (u5 (List.mem_of_getElem? (i := 199) rfl)) rfl)
theorem kX11_122 : mLk RX11 122 mX11_isNamed := Or.inl (lw_use_in (u5 (List.mem_of_getElem? (i := 203) rfl)) rfl)
theorem kX11_167 : mLk RX11 167 mX11_takes := Or.inl (lw_use_in (u5 (List.mem_of_getElem? (i := 207) rfl)) rfl)
theorem kX11_126 : mLk RX11 126 mX11_stamp := Or.inl (lw_use_in (u5 (List.mem_of_getElem? (i := 211) rfl)) rfl)
theorem kX11_129 : mLk RX11 129 mX11_names := Or.inl (lw_use_in (u5 (List.mem_of_getElem? (i := 215) rfl)) rfl)
theorem kX11_177 : mLk RX11 177 mX11_moves := Or.inl (lw_use_in (u5 (List.mem_of_getElem? (i := 219) rfl)) rfl)
theorem kX11_180 : mLk RX11 180 mX11_isTask := Or.inl (lw_use_in (u5 (List.mem_of_getElem? (i := 223) rfl)) rfl)
theorem kX11_139 : mLk RX11 139 mX11_behind := Or.inl (lw_use_in (u5 (List.mem_of_getElem? (i := 227) rfl)) rfl)
theorem kX11_142 : mLk RX11 142 mX11_gathers := Or.inl (lw_use_in (u5 (List.mem_of_getElem? (i := 231) rfl)) rfl)
theorem kX11_195 : mLk RX11 195 mX11_doesIn := Or.inl (lw_use_in (u5 (List.mem_of_getElem? (i := 235) rfl)) rfl)
theorem kX11_186 : mLk RX11 186 mX11_opens := Or.inl (lw_use_in (u5 (List.mem_of_getElem? (i := 239) rfl)) rfl)
theorem kX11_198 : mLk RX11 198 mX11_gatheredBy := Or.inl (lw_use_in (u6 (List.mem_of_getElem? (i := 3) rfl)) rfl)
theorem kL_141 : mLk RL 141 mX11_run := Or.inl (lw_use_in (u6 (List.mem_of_getElem? (i := 7) rfl)) rfl)
theorem kX11_214 : mLk RX11 214 mX11_ticks := Or.inl (lw_use_in (u6 (List.mem_of_getElem? (i := 11) rfl)) rfl)
theorem kX11_211 : mLk RX11 211 mX11_tick := Or.inl (lw_use_in (u6 (List.mem_of_getElem? (i := 15) rfl)) rfl)
theorem kL_133 : mLk RL 133 mX11_task := Or.inl (lw_use_in (u6 (List.mem_of_getElem? (i := 16) rfl)) rfl)
theorem kX11_115 : mLk RX11 115 mX11_begins := Or.inl (lw_use_in (u6 (List.mem_of_getElem? (i := 20) rfl)) rfl)
theorem kX11_92 : mLk RX11 92 mX11_isStepsRead := Or.inl (lw_use_in (u6 (List.mem_of_getElem? (i := 24) rfl)) rfl)
theorem kX11_108 : mLk RX11 108 mX11_isStepRead := Or.inl (lw_use_in (u6 (List.mem_of_getElem? (i := 28) rfl)) rfl)
theorem kX11_74 : mLk RX11 74 mX11_here := Or.inl (lw_use_in (u6 (List.mem_of_getElem? (i := 32) rfl)) rfl)
theorem kX11_78 : mLk RX11 78 mX11_fails := Or.inl (lw_use_in (u6 (List.mem_of_getElem? (i := 36) rfl)) rfl)
theorem kX11_85 : mLk RX11 85 mX11_isNumber := Or.inl (lw_use_in (u6 (List.mem_of_getElem? (i := 40) rfl)) rfl)
theorem kX11_96 : mLk RX11 96 mX11_isSign := Or.inl (lw_use_in (u6 (List.mem_of_getElem? (i := 44) rfl)) rfl)
theorem kX11_102 : mLk RX11 102 mX11_isSigned := Or.inl (lw_use_in (u6 (List.mem_of_getElem? (i := 48) rfl)) rfl)
theorem kX11_105 : mLk RX11 105 mX11_isTakeRead := Or.inl (lw_use_in (u6 (List.mem_of_getElem? (i := 53) rfl)) rfl)
theorem kX11_88 : mLk RX11 88 mX11_isName := Or.inl (lw_use_in (u6 (List.mem_of_getElem? (i := 57) rfl)) rfl)
theorem kX11_217 : mLk RX11 217 mX11_isWhole := Or.inl (lw_use_in (u6 (List.mem_of_getElem? (i := 61) rfl)) rfl)
theorem kX11_220 : mLk RX11 220 mX11_pooled := Or.inl (lw_use_in (u6 (List.mem_of_getElem? (i := 65) rfl)) rfl)
theorem kL_145 : mLk RL 145 mX11_cancel := Or.inl (lw_use_in (u6 (List.mem_of_getElem? (i := 69) rfl)) rfl)
theorem kL_149 : mLk RL 149 mX11_rank := Or.inl (lw_use_in (u6 (List.mem_of_getElem? (i := 73) rfl)) rfl)
theorem kL_153 : mLk RL 153 mX11_of := Or.inl (lw_use_in (u6 (List.mem_of_getElem? (i := 77) rfl)) rfl)
theorem kX11_223 : mLk RX11 223 mX11_notShut := Or.inl (lw_use_in (u6 (List.mem_of_getElem? (i := 81) rfl)) rfl)
theorem kX11_226 : mLk RX11 226 mX11_stepsIn := Or.inl (lw_use_in (u6 (List.mem_of_getElem? (i := 85) rfl)) rfl)
theorem kL_157 : mLk RL 157 mX11_ready := Or.inl (lw_use_in (u6 (List.mem_of_getElem? (i := 89) rfl)) rfl)
theorem kL_125 : mLk RL 125 mX11_fault := Or.inl (lw_use_in (u6 (List.mem_of_getElem? (i := 93) rfl)) rfl)
theorem kX11_229 : mLk RX11 229 mX11_hasFaults := Or.inl (lw_use_in (u6 (List.mem_of_getElem? (i := 97) rfl)) rfl)
theorem kX11_232 : mLk RX11 232 mX11_manyFaults := Or.inl (lw_use_in (u6 (List.mem_of_getElem? (i := 101) rfl)) rfl)
theorem kX11_235 : mLk RX11 235 mX11_faultAt := Or.inl (lw_use_in (u6 (List.mem_of_getElem? (i := 105) rfl)) rfl)
theorem kL_129 : mLk RL 129 mX11_faults := Or.inl (lw_use_in (u6 (List.mem_of_getElem? (i := 109) rfl)) rfl)
theorem kL_38 : mLk RL 38 mX11_open := Or.inl (lw_use_in (u6 (List.mem_of_getElem? (i := 113) rfl)) rfl)
theorem kL_42 : mLk RL 42 mX11_take := Or.inl (lw_use_in (u6 (List.mem_of_getElem? (i := 117) rfl)) rfl)
theorem kL_46 : mLk RL 46 mX11_close := Or.inl (lw_use_in (u6 (List.mem_of_getElem? (i := 121) rfl)) rfl)
theorem kX11_238 : mLk RX11 238 mX11_isThing := Or.inl (lw_use_in (u6 (List.mem_of_getElem? (i := 125) rfl)) rfl)
theorem kL_50 : mLk RL 50 mX11_shut := Or.inl (lw_use_in (u6 (List.mem_of_getElem? (i := 129) rfl)) rfl)
theorem kL_55 : mLk RL 55 mX11_move := Or.inl (lw_use_in (u6 (List.mem_of_getElem? (i := 133) rfl)) rfl)
theorem kX11_241 : mLk RX11 241 mX11_entries := Or.inl (lw_use_in (u6 (List.mem_of_getElem? (i := 137) rfl)) rfl)
theorem kL_59 : mLk RL 59 mX11_count := Or.inl (lw_use_in (u6 (List.mem_of_getElem? (i := 141) rfl)) rfl)
theorem kL_64 : mLk RL 64 mX11_counter := Or.inl (lw_use_in (u6 (List.mem_of_getElem? (i := 145) rfl)) rfl)
theorem kL_68 : mLk RL 68 mX11_scope := Or.inl (lw_use_in (u6 (List.mem_of_getElem? (i := 150) rfl)) rfl)
theorem kX11_249 : mLk RX11 249 mX11_heldIn := Or.inl (lw_use_in (u6 (List.mem_of_getElem? (i := 154) rfl)) rfl)
theorem kX11_246 : mLk RX11 246 mX11_isBelow := Or.inl (lw_use_in (u6 (List.mem_of_getElem? (i := 158) rfl)) rfl)
theorem kX11_252 : mLk RX11 252 mX11_above := Or.inl (lw_use_in (u6 (List.mem_of_getElem? (i := 162) rfl)) rfl)
theorem kL_72 : mLk RL 72 mX11_below := Or.inl (lw_use_in (u6 (List.mem_of_getElem? (i := 166) rfl)) rfl)
theorem kL_76 : mLk RL 76 mX11_youngest := Or.inl (lw_use_in (u6 (List.mem_of_getElem? (i := 170) rfl)) rfl)
theorem kL_80 : mLk RL 80 mX11_entry := Or.inl (lw_use_in (u6 (List.mem_of_getElem? (i := 174) rfl)) rfl)
theorem kX11_261 : mLk RX11 261 mX11_entryAhead := Or.inl (lw_use_in (u6 (List.mem_of_getElem? (i := 178) rfl)) rfl)
theorem kX11_255 : mLk RX11 255 mX11_isEntry := Or.inl (lw_use_in (u6 (List.mem_of_getElem? (i := 182) rfl)) rfl)
theorem kX11_258 : mLk RX11 258 mX11_stampOf := Or.inl (lw_use_in (u6 (List.mem_of_getElem? (i := 186) rfl)) rfl)
theorem kL_84 : mLk RL 84 mX11_thing := Or.inl (lw_use_in (u6 (List.mem_of_getElem? (i := 190) rfl)) rfl)
theorem kL_88 : mLk RL 88 mX11_name := Or.inl (lw_use_in (u6 (List.mem_of_getElem? (i := 194) rfl)) rfl)
theorem kL_92 : mLk RL 92 mX11_find := Or.inl (lw_use_in (u6 (List.mem_of_getElem? (i := 198) rfl)) rfl)
theorem kL_96 : mLk RL 96 mX11_from := Or.inl (lw_use_in (u6 (List.mem_of_getElem? (i := 202) rfl)) rfl)
theorem kX11_264 : mLk RX11 264 mX11_against := Or.inl (lw_use_in (u6 (List.mem_of_getElem? (i := 206) rfl)) rfl)
theorem kX11_268 : mLk RX11 268 mX11_against_ := Or.inl (lw_use_in (u6 (List.mem_of_getElem? (i := 210) rfl)) rfl)
theorem kL_100 : mLk RL 100 mX11_rename := Or.inl (lw_use_in (u6 (List.mem_of_getElem? (i := 214) rfl)) rfl)
theorem kL_104 : mLk RL 104 mX11_byName := Or.inl (lw_use_in (u6 (List.mem_of_getElem? (i := 218) rfl)) rfl)
theorem kL_108 : mLk RL 108 mX11_plan := Or.inl (lw_use_in (u6 (List.mem_of_getElem? (i := 222) rfl)) rfl)
theorem kX11_270 : mLk RX11 270 mX11_plansOf := Or.inl (lw_use_in (u6 (List.mem_of_getElem? (i := 226) rfl)) rfl)
theorem kL_112 : mLk RL 112 mX11_would := Or.inl (lw_use_in (u6 (List.mem_of_getElem? (i := 230) rfl)) rfl)
theorem kX11_279 : mLk RX11 279 mX11_copies := Or.inl (lw_use_in (u6 (List.mem_of_getElem? (i := 234) rfl)) rfl)
theorem kX11_283 : mLk RX11 283 mX11_shut := Or.inl (lw_use_in (u6 (List.mem_of_getElem? (i := 237) rfl)) rfl)
theorem kX11_286 : mLk RX11 286 mX11_wouldNow := Or.inl (lw_use_in (u6 (List.mem_of_getElem? (i := 238) rfl)) rfl)
theorem kX11_276 : mLk RX11 276 mX11_held := Or.inl (lw_use_in (u7 (List.mem_of_getElem? (i := 2) rfl)) rfl)
theorem kL_117 : mLk RL 117 mX11_trial := Or.inl (lw_use_in (u7 (List.mem_of_getElem? (i := 6) rfl)) rfl)
theorem kX11_289 : mLk RX11 289 mX11_trialNow := Or.inl (lw_use_in (u7 (List.mem_of_getElem? (i := 10) rfl)) rfl)
theorem kL_121 : mLk RL 121 mX11_log := Or.inl (lw_use_in (u7 (List.mem_of_getElem? (i := 14) rfl)) rfl)
theorem kL_161 : mLk RL 161 mX11_told := Or.inl (lw_use_in (u7 (List.mem_of_getElem? (i := 18) rfl)) rfl)
theorem kX11_292 : mLk RX11 292 mX11_opened := Or.inl (lw_use_in (u7 (List.mem_of_getElem? (i := 22) rfl)) rfl)
theorem kX11_295 : mLk RX11 295 mX11_readyOnes := Or.inl (lw_use_in (u7 (List.mem_of_getElem? (i := 26) rfl)) rfl)
theorem kL_26 : mLk RL 26 mX11_spell := Or.inl (lw_use_in (u7 (List.mem_of_getElem? (i := 30) rfl)) rfl)
theorem kX11_301 : mLk RX11 301 mX11_spells := Or.inl (lw_use_in (u7 (List.mem_of_getElem? (i := 34) rfl)) rfl)
theorem kL_30 : mLk RL 30 mX11_spellTask := Or.inl (lw_use_in (u7 (List.mem_of_getElem? (i := 38) rfl)) rfl)
theorem kL_34 : mLk RL 34 mX11_paper := Or.inl (lw_use_in (u7 (List.mem_of_getElem? (i := 42) rfl)) rfl)
theorem kL_165 : mLk RL 165 mX11_row := Or.inl (lw_use_in (u7 (List.mem_of_getElem? (i := 46) rfl)) rfl)
theorem kX11_304 : mLk RX11 304 mX11_isRow := Or.inl (lw_use_in (u7 (List.mem_of_getElem? (i := 50) rfl)) rfl)
theorem kL_169 : mLk RL 169 mX11_set := Or.inl (lw_use_in (u7 (List.mem_of_getElem? (i := 53) rfl)) rfl)
theorem kX11_307 : mLk RX11 307 mX11_wrong := Or.inl (lw_use_in (u7 (List.mem_of_getElem? (i := 57) rfl)) rfl)
theorem kL_174 : mLk RL 174 mX11_get := Or.inl (lw_use_in (u7 (List.mem_of_getElem? (i := 61) rfl)) rfl)
theorem kL_179 : mLk RL 179 mX11_copy := Or.inl (lw_use_in (u7 (List.mem_of_getElem? (i := 65) rfl)) rfl)
theorem kL_183 : mLk RL 183 mX11_lay := Or.inl (lw_use_in (u7 (List.mem_of_getElem? (i := 69) rfl)) rfl)
theorem kL_187 : mLk RL 187 mX11_judge := Or.inl (lw_use_in (u7 (List.mem_of_getElem? (i := 73) rfl)) rfl)
theorem kL_191 : mLk RL 191 mX11_image := Or.inl (lw_use_in (u7 (List.mem_of_getElem? (i := 77) rfl)) rfl)
theorem kL_195 : mLk RL 195 mX11_undo := Or.inl (lw_use_in (u7 (List.mem_of_getElem? (i := 81) rfl)) rfl)
theorem kX10_11 : mLk RX10 11 mX2_init := Or.inr ⟨"ScopeWarden", (lw_use_in (u1 (List.mem_of_getElem? (i := 24) rfl)) rfl)⟩
theorem kX10_25 : mLk RX10 25 mX5_init := Or.inr ⟨"ScopeWarden", (lw_use_in (u1 (List.mem_of_getElem? (i := 67) rfl)) rfl)⟩
theorem kX10_42 : mLk RX10 42 mX3_init := Or.inr ⟨"ScopeWarden", (lw_use_in (u1 (List.mem_of_getElem? (i := 82) rfl)) rfl)⟩
theorem kX9_46 : mLk RX9 46 mX0_init := Or.inr ⟨"ScopeWarden", (lw_use_in (u1 (List.mem_of_getElem? (i := 102) rfl)) rfl)⟩
theorem kX9_51 : mLk RX9 51 mX8_init := Or.inr ⟨"ScopeWarden", (lw_use_in (u1 (List.mem_of_getElem? (i := 124) rfl)) rfl)⟩
theorem kX9_52 : mLk RX9 52 mX4_init := Or.inr ⟨"ScopeWarden", (lw_use_in (u1 (List.mem_of_getElem? (i := 162) rfl)) rfl)⟩
theorem kX9_53 : mLk RX9 53 mX7_init := Or.inr ⟨"ScopeWarden", (lw_use_in (u1 (List.mem_of_getElem? (i := 185) rfl)) rfl)⟩
theorem kX5_70 : mLk RX5 70 mX10_lettersOf := Or.inr ⟨"ScopeWarden", (lw_use_in (u2 (List.mem_of_getElem? (i := 141) rfl)) rfl)⟩
theorem kX5_74 : mLk RX5 74 mX10_letterOf := Or.inr ⟨"ScopeWarden", (lw_use_in (u2 (List.mem_of_getElem? (i := 147) rfl)) rfl)⟩
theorem kX9_176 : mLk RX9 176 mX10_letterOf := Or.inr ⟨"ScopeWarden", (lw_use_in (u4 (List.mem_of_getElem? (i := 48) rfl)) rfl)⟩
theorem cL_7 : mNewC RL 7 10 9 [.null, .null, .null, .null, .null, .null, .null, .null, .null] := ⟨_, rfl, rfl, (lw_use_in (u1 (List.mem_of_getElem? (i := 14) rfl)) rfl), (lw_use_in (u1 (List.mem_of_getElem? (i := 15) rfl)) rfl), (lw_use_in (u1 (List.mem_of_getElem? (i := 1) rfl)) rfl), tyX10, tyX10_ok, by decide +kernel⟩
theorem cX10_9 : mNewC RX10 9 2 4 [.null, .int 0, .int 0, .int 0] := ⟨_, rfl, rfl, (lw_use_in (u1 (List.mem_of_getElem? (i := 22) rfl)) rfl), (lw_use_in (u1 (List.mem_of_getElem? (i := 23) rfl)) rfl), (lw_use_in (u1 (List.mem_of_getElem? (i := 2) rfl)) rfl), tyX2, tyX2_ok, by decide +kernel⟩
theorem cX2_9 : mNewC RX2 9 1 2 [.null, .int 0] := ⟨_, rfl, rfl, (lw_use_in (u1 (List.mem_of_getElem? (i := 28) rfl)) rfl), (lw_use_in (u1 (List.mem_of_getElem? (i := 29) rfl)) rfl), (lw_use_in (u1 (List.mem_of_getElem? (i := 3) rfl)) rfl), tyX1, tyX1_ok, by decide +kernel⟩
theorem cX10_23 : mNewC RX10 23 5 1 [.null] := ⟨_, rfl, rfl, (lw_use_in (u1 (List.mem_of_getElem? (i := 65) rfl)) rfl), (lw_use_in (u1 (List.mem_of_getElem? (i := 66) rfl)) rfl), (lw_use_in (u1 (List.mem_of_getElem? (i := 4) rfl)) rfl), tyX5, tyX5_ok, by decide +kernel⟩
theorem cX5_9 : mNewC RX5 9 1 2 [.null, .int 0] := ⟨_, rfl, rfl, (lw_use_in (u1 (List.mem_of_getElem? (i := 71) rfl)) rfl), (lw_use_in (u1 (List.mem_of_getElem? (i := 29) rfl)) rfl), (lw_use_in (u1 (List.mem_of_getElem? (i := 3) rfl)) rfl), tyX1, tyX1_ok, by decide +kernel⟩
theorem cX10_34 : mNewC RX10 34 1 2 [.null, .int 0] := ⟨_, rfl, rfl, (lw_use_in (u1 (List.mem_of_getElem? (i := 78) rfl)) rfl), (lw_use_in (u1 (List.mem_of_getElem? (i := 29) rfl)) rfl), (lw_use_in (u1 (List.mem_of_getElem? (i := 3) rfl)) rfl), tyX1, tyX1_ok, by decide +kernel⟩
theorem aX10_34 : Cond.classLink RX10 34 "ScopeWarden$Ints" ∈ lw_use := (lw_use_in (u1 (List.mem_of_getElem? (i := 78) rfl)) rfl)
theorem cX10_40 : mNewC RX10 40 3 3 [.null, .null, .int 0] := ⟨_, rfl, rfl, (lw_use_in (u1 (List.mem_of_getElem? (i := 80) rfl)) rfl), (lw_use_in (u1 (List.mem_of_getElem? (i := 81) rfl)) rfl), (lw_use_in (u1 (List.mem_of_getElem? (i := 5) rfl)) rfl), tyX3, tyX3_ok, by decide +kernel⟩
theorem cX3_9 : mNewC RX3 9 9 11 [.null, .null, .null, .int 0, .int 0, .int 0, .int 0, .null, .null, .null, .null] := ⟨_, rfl, rfl, (lw_use_in (u1 (List.mem_of_getElem? (i := 86) rfl)) rfl), (lw_use_in (u1 (List.mem_of_getElem? (i := 87) rfl)) rfl), (lw_use_in (u1 (List.mem_of_getElem? (i := 6) rfl)) rfl), tyX9, tyX9_ok, by decide +kernel⟩
theorem cX9_9 : mNewC RX9 9 8 6 [.long 0, .null, .null, .int 0, .int 0, .int 0] := ⟨_, rfl, rfl, (lw_use_in (u1 (List.mem_of_getElem? (i := 92) rfl)) rfl), (lw_use_in (u1 (List.mem_of_getElem? (i := 123) rfl)) rfl), (lw_use_in (u1 (List.mem_of_getElem? (i := 8) rfl)) rfl), tyX8, tyX8_ok, by decide +kernel⟩
theorem aX9_9 : Cond.classLink RX9 9 "ScopeWarden$Thing" ∈ lw_use := (lw_use_in (u1 (List.mem_of_getElem? (i := 92) rfl)) rfl)
theorem cX9_17 : mNewC RX9 17 4 3 [.int 0, .int 0, .int 0] := ⟨_, rfl, rfl, (lw_use_in (u1 (List.mem_of_getElem? (i := 94) rfl)) rfl), (lw_use_in (u1 (List.mem_of_getElem? (i := 161) rfl)) rfl), (lw_use_in (u1 (List.mem_of_getElem? (i := 9) rfl)) rfl), tyX4, tyX4_ok, by decide +kernel⟩
theorem aX9_17 : Cond.classLink RX9 17 "ScopeWarden$Scope" ∈ lw_use := (lw_use_in (u1 (List.mem_of_getElem? (i := 94) rfl)) rfl)
theorem cX9_23 : mNewC RX9 23 7 11 [.null, .null, .int 0, .int 0, .int 0, .int 0, .int 0, .int 0, .int 0, .int 0, .int 0] := ⟨_, rfl, rfl, (lw_use_in (u1 (List.mem_of_getElem? (i := 96) rfl)) rfl), (lw_use_in (u1 (List.mem_of_getElem? (i := 184) rfl)) rfl), (lw_use_in (u1 (List.mem_of_getElem? (i := 10) rfl)) rfl), tyX7, tyX7_ok, by decide +kernel⟩
theorem aX9_23 : Cond.classLink RX9 23 "ScopeWarden$Task" ∈ lw_use := (lw_use_in (u1 (List.mem_of_getElem? (i := 96) rfl)) rfl)
theorem cX9_29 : mNewC RX9 29 1 2 [.null, .int 0] := ⟨_, rfl, rfl, (lw_use_in (u1 (List.mem_of_getElem? (i := 98) rfl)) rfl), (lw_use_in (u1 (List.mem_of_getElem? (i := 29) rfl)) rfl), (lw_use_in (u1 (List.mem_of_getElem? (i := 3) rfl)) rfl), tyX1, tyX1_ok, by decide +kernel⟩
theorem cX9_44 : mNewC RX9 44 0 4 [.null, .null, .null, .int 0] := ⟨_, rfl, rfl, (lw_use_in (u1 (List.mem_of_getElem? (i := 100) rfl)) rfl), (lw_use_in (u1 (List.mem_of_getElem? (i := 101) rfl)) rfl), (lw_use_in (u1 (List.mem_of_getElem? (i := 7) rfl)) rfl), tyX0, tyX0_ok, by decide +kernel⟩
theorem cX0_9 : mNewC RX0 9 1 2 [.null, .int 0] := ⟨_, rfl, rfl, (lw_use_in (u1 (List.mem_of_getElem? (i := 106) rfl)) rfl), (lw_use_in (u1 (List.mem_of_getElem? (i := 29) rfl)) rfl), (lw_use_in (u1 (List.mem_of_getElem? (i := 3) rfl)) rfl), tyX1, tyX1_ok, by decide +kernel⟩
theorem cX3_18 : mNewC RX3 18 1 2 [.null, .int 0] := ⟨_, rfl, rfl, (lw_use_in (u2 (List.mem_of_getElem? (i := 54) rfl)) rfl), (lw_use_in (u1 (List.mem_of_getElem? (i := 29) rfl)) rfl), (lw_use_in (u1 (List.mem_of_getElem? (i := 3) rfl)) rfl), tyX1, tyX1_ok, by decide +kernel⟩
theorem cX2_23 : mNewC RX2 23 6 6 [.int 0, .int 0, .int 0, .long 0, .null, .null] := ⟨_, rfl, rfl, (lw_use_in (u2 (List.mem_of_getElem? (i := 199) rfl)) rfl), (lw_use_in (u2 (List.mem_of_getElem? (i := 200) rfl)) rfl), (lw_use_in (u1 (List.mem_of_getElem? (i := 12) rfl)) rfl), tyX6, tyX6_ok, by decide +kernel⟩
theorem cX10_64 : mNewC RX10 64 9 11 [.null, .null, .null, .int 0, .int 0, .int 0, .int 0, .null, .null, .null, .null] := ⟨_, rfl, rfl, (lw_use_in (u5 (List.mem_of_getElem? (i := 35) rfl)) rfl), (lw_use_in (u1 (List.mem_of_getElem? (i := 87) rfl)) rfl), (lw_use_in (u1 (List.mem_of_getElem? (i := 6) rfl)) rfl), tyX9, tyX9_ok, by decide +kernel⟩
theorem cL_10 : mNewC RL 10 11 21 [.null, .null, .null, .null, .int 0, .null, .int 0, .null, .int 0, .int 0, .int 0, .int 0, .int 0, .int 0, .int 0, .null, .int 0, .null, .int 0, .null, .null] := ⟨_, rfl, rfl, (lw_use_in (u5 (List.mem_of_getElem? (i := 41) rfl)) rfl), (lw_use_in (u5 (List.mem_of_getElem? (i := 42) rfl)) rfl), (lw_use_in (u1 (List.mem_of_getElem? (i := 11) rfl)) rfl), tyX11, tyX11_ok, by decide +kernel⟩
theorem oX3_87 : Cond.constant RX3 87 (1000000) ∈ lw_use := (lw_use_in (u3 (List.mem_of_getElem? (i := 87) rfl)) rfl)
theorem oX9_160 : Cond.constant RX9 160 (1000000) ∈ lw_use := (lw_use_in (u4 (List.mem_of_getElem? (i := 73) rfl)) rfl)
theorem oX11_84 : Cond.constant RX11 84 (99999) ∈ lw_use := (lw_use_in (u6 (List.mem_of_getElem? (i := 52) rfl)) rfl)
theorem oX10_153 : Cond.constantLong RX10 153 (-9223372036854775808) ∈ lw_use := (lw_use_in (u3 (List.mem_of_getElem? (i := 215) rfl)) rfl)
theorem oX11_244 : Cond.constantLong RX11 244 (-9223372036854775808) ∈ lw_use := (lw_use_in (u6 (List.mem_of_getElem? (i := 149) rfl)) rfl)
theorem w_Ints : Cond.arrayOver (.object "ScopeWarden$Ints") ∈ lw_use := (lw_use_in (u1 (List.mem_of_getElem? (i := 79) rfl)) rfl)
theorem w_Thing : Cond.arrayOver (.object "ScopeWarden$Thing") ∈ lw_use := (lw_use_in (u1 (List.mem_of_getElem? (i := 93) rfl)) rfl)
theorem w_Scope : Cond.arrayOver (.object "ScopeWarden$Scope") ∈ lw_use := (lw_use_in (u1 (List.mem_of_getElem? (i := 95) rfl)) rfl)
theorem w_Task : Cond.arrayOver (.object "ScopeWarden$Task") ∈ lw_use := (lw_use_in (u1 (List.mem_of_getElem? (i := 97) rfl)) rfl)
theorem w_int : Cond.arrayClass .int ∈ lw_use := (lw_use_in (u1 (List.mem_of_getElem? (i := 49) rfl)) rfl)
