/-! ===== methods, links, fields of this claim, as the clean machine asks for them (by program) ===== -/
theorem u0 {w : Cond} (h : w ∈ k2_sels lw_privs) : w ∈ lw_tbl := List.mem_append_left _ h
theorem u1 {w : Cond} (h : w ∈ tables_1_1) : w ∈ lw_tbl := List.mem_append_right _ (List.mem_append_left _ h)
theorem u2 {w : Cond} (h : w ∈ tables_1_2) : w ∈ lw_tbl := List.mem_append_right _ (List.mem_append_right _ (List.mem_append_left _ h))
theorem u3 {w : Cond} (h : w ∈ tables_1_3) : w ∈ lw_tbl := List.mem_append_right _ (List.mem_append_right _ (List.mem_append_right _ (List.mem_append_left _ h)))
theorem u4 {w : Cond} (h : w ∈ tables_1_4) : w ∈ lw_tbl := List.mem_append_right _ (List.mem_append_right _ (List.mem_append_right _ (List.mem_append_right _ (List.mem_append_left _ h))))
theorem u5 {w : Cond} (h : w ∈ tables_1_5) : w ∈ lw_tbl := List.mem_append_right _ (List.mem_append_right _ (List.mem_append_right _ (List.mem_append_right _ (List.mem_append_right _ (h)))))
def mX0_init : mM := (yX0_init, cX0_init, 1, none)
theorem qX0_init : mMeth mX0_init 0 := ⟨(lw_use_in (u1 (List.mem_of_getElem? (i := 111) rfl)) rfl), (lw_use_in (u1 (List.mem_of_getElem? (i := 7) rfl)) rfl), ⟨by decide +kernel, by decide +kernel⟩, Nat.le_of_ble_eq_true rfl, by decide +kernel⟩
theorem iX0_init : Cond.instanceMethod yX0_init ∈ lw_use := (lw_use_in (u1 (List.mem_of_getElem? (i := 110) rfl)) rfl)
def mX0_gather : mM := (yX0_gather, cX0_gather, 4, none)
theorem qX0_gather : mMeth mX0_gather 3 := ⟨(lw_use_in (u3 (List.mem_of_getElem? (i := 131) rfl)) rfl), (lw_use_in (u1 (List.mem_of_getElem? (i := 7) rfl)) rfl), ⟨by decide +kernel, by decide +kernel⟩, Nat.le_of_ble_eq_true rfl, by decide +kernel⟩
theorem vX0_gather : mVirt mX0_gather := ⟨(lw_use_in (u3 (List.mem_of_getElem? (i := 129) rfl)) rfl), (lw_use_in (u3 (List.mem_of_getElem? (i := 130) rfl)) rfl)⟩
def mX0_beginCall : mM := (yX0_beginCall, cX0_beginCall, 1, none)
theorem qX0_beginCall : mMeth mX0_beginCall 0 := ⟨(lw_use_in (u3 (List.mem_of_getElem? (i := 5) rfl)) rfl), (lw_use_in (u1 (List.mem_of_getElem? (i := 7) rfl)) rfl), ⟨by decide +kernel, by decide +kernel⟩, Nat.le_of_ble_eq_true rfl, by decide +kernel⟩
theorem vX0_beginCall : mVirt mX0_beginCall := ⟨(lw_use_in (u3 (List.mem_of_getElem? (i := 3) rfl)) rfl), (lw_use_in (u3 (List.mem_of_getElem? (i := 4) rfl)) rfl)⟩
def mX0_gatheredBy : mM := (yX0_gatheredBy, cX0_gatheredBy, 4, some FieldType.int)
theorem qX0_gatheredBy : mMeth mX0_gatheredBy 1 := ⟨(lw_use_in (u3 (List.mem_of_getElem? (i := 49) rfl)) rfl), (lw_use_in (u1 (List.mem_of_getElem? (i := 7) rfl)) rfl), ⟨by decide +kernel, by decide +kernel⟩, Nat.le_of_ble_eq_true rfl, by decide +kernel⟩
theorem vX0_gatheredBy : mVirt mX0_gatheredBy := ⟨(lw_use_in (u3 (List.mem_of_getElem? (i := 47) rfl)) rfl), (lw_use_in (u3 (List.mem_of_getElem? (i := 48) rfl)) rfl)⟩
def mX0_placeOf : mM := (yX0_placeOf, cX0_placeOf, 5, some FieldType.int)
theorem qX0_placeOf : mMeth mX0_placeOf 2 := ⟨(lw_use_in (u4 (List.mem_of_getElem? (i := 25) rfl)) rfl), (lw_use_in (u1 (List.mem_of_getElem? (i := 7) rfl)) rfl), ⟨by decide +kernel, by decide +kernel⟩, Nat.le_of_ble_eq_true rfl, by decide +kernel⟩
theorem vX0_placeOf : mVirt mX0_placeOf := ⟨(lw_use_in (u4 (List.mem_of_getElem? (i := 23) rfl)) rfl), (lw_use_in (u4 (List.mem_of_getElem? (i := 24) rfl)) rfl)⟩
def mX0_become : mM := (yX0_become, cX0_become, 2, none)
theorem qX0_become : mMeth mX0_become 1 := ⟨(lw_use_in (u4 (List.mem_of_getElem? (i := 16) rfl)) rfl), (lw_use_in (u1 (List.mem_of_getElem? (i := 7) rfl)) rfl), ⟨by decide +kernel, by decide +kernel⟩, Nat.le_of_ble_eq_true rfl, by decide +kernel⟩
theorem vX0_become : mVirt mX0_become := ⟨(lw_use_in (u4 (List.mem_of_getElem? (i := 14) rfl)) rfl), (lw_use_in (u4 (List.mem_of_getElem? (i := 15) rfl)) rfl)⟩
def mX1_init : mM := (yX1_init, cX1_init, 2, none)
theorem qX1_init : mMeth mX1_init 1 := ⟨(lw_use_in (u1 (List.mem_of_getElem? (i := 41) rfl)) rfl), (lw_use_in (u1 (List.mem_of_getElem? (i := 3) rfl)) rfl), ⟨by decide +kernel, by decide +kernel⟩, Nat.le_of_ble_eq_true rfl, by decide +kernel⟩
theorem iX1_init : Cond.instanceMethod yX1_init ∈ lw_use := (lw_use_in (u1 (List.mem_of_getElem? (i := 40) rfl)) rfl)
def mX1_has : mM := (yX1_has, cX1_has, 2, some FieldType.boolean)
theorem qX1_has : mMeth mX1_has 1 := ⟨(lw_use_in (u3 (List.mem_of_getElem? (i := 25) rfl)) rfl), (lw_use_in (u1 (List.mem_of_getElem? (i := 3) rfl)) rfl), ⟨by decide +kernel, by decide +kernel⟩, Nat.le_of_ble_eq_true rfl, by decide +kernel⟩
theorem vX1_has : mVirt mX1_has := ⟨(lw_use_in (u3 (List.mem_of_getElem? (i := 23) rfl)) rfl), (lw_use_in (u3 (List.mem_of_getElem? (i := 24) rfl)) rfl)⟩
def mX1_at : mM := (yX1_at, cX1_at, 2, some FieldType.int)
theorem qX1_at : mMeth mX1_at 1 := ⟨(lw_use_in (u3 (List.mem_of_getElem? (i := 21) rfl)) rfl), (lw_use_in (u1 (List.mem_of_getElem? (i := 3) rfl)) rfl), ⟨by decide +kernel, by decide +kernel⟩, Nat.le_of_ble_eq_true rfl, by decide +kernel⟩
theorem vX1_at : mVirt mX1_at := ⟨(lw_use_in (u3 (List.mem_of_getElem? (i := 19) rfl)) rfl), (lw_use_in (u3 (List.mem_of_getElem? (i := 20) rfl)) rfl)⟩
def mX1_put : mM := (yX1_put, cX1_put, 3, none)
theorem qX1_put : mMeth mX1_put 2 := ⟨(lw_use_in (u3 (List.mem_of_getElem? (i := 63) rfl)) rfl), (lw_use_in (u1 (List.mem_of_getElem? (i := 3) rfl)) rfl), ⟨by decide +kernel, by decide +kernel⟩, Nat.le_of_ble_eq_true rfl, by decide +kernel⟩
theorem vX1_put : mVirt mX1_put := ⟨(lw_use_in (u3 (List.mem_of_getElem? (i := 61) rfl)) rfl), (lw_use_in (u3 (List.mem_of_getElem? (i := 62) rfl)) rfl)⟩
def mX1_append : mM := (yX1_append, cX1_append, 2, some FieldType.boolean)
theorem qX1_append : mMeth mX1_append 1 := ⟨(lw_use_in (u2 (List.mem_of_getElem? (i := 118) rfl)) rfl), (lw_use_in (u1 (List.mem_of_getElem? (i := 3) rfl)) rfl), ⟨by decide +kernel, by decide +kernel⟩, Nat.le_of_ble_eq_true rfl, by decide +kernel⟩
theorem vX1_append : mVirt mX1_append := ⟨(lw_use_in (u2 (List.mem_of_getElem? (i := 116) rfl)) rfl), (lw_use_in (u2 (List.mem_of_getElem? (i := 117) rfl)) rfl)⟩
def mX1_drop : mM := (yX1_drop, cX1_drop, 4, none)
theorem qX1_drop : mMeth mX1_drop 1 := ⟨(lw_use_in (u3 (List.mem_of_getElem? (i := 90) rfl)) rfl), (lw_use_in (u1 (List.mem_of_getElem? (i := 3) rfl)) rfl), ⟨by decide +kernel, by decide +kernel⟩, Nat.le_of_ble_eq_true rfl, by decide +kernel⟩
theorem vX1_drop : mVirt mX1_drop := ⟨(lw_use_in (u3 (List.mem_of_getElem? (i := 88) rfl)) rfl), (lw_use_in (u3 (List.mem_of_getElem? (i := 89) rfl)) rfl)⟩
def mX1_becomeZeros : mM := (yX1_becomeZeros, cX1_becomeZeros, 3, none)
theorem qX1_becomeZeros : mMeth mX1_becomeZeros 1 := ⟨(lw_use_in (u2 (List.mem_of_getElem? (i := 6) rfl)) rfl), (lw_use_in (u1 (List.mem_of_getElem? (i := 3) rfl)) rfl), ⟨by decide +kernel, by decide +kernel⟩, Nat.le_of_ble_eq_true rfl, by decide +kernel⟩
theorem vX1_becomeZeros : mVirt mX1_becomeZeros := ⟨(lw_use_in (u2 (List.mem_of_getElem? (i := 4) rfl)) rfl), (lw_use_in (u2 (List.mem_of_getElem? (i := 5) rfl)) rfl)⟩
def mX1_become : mM := (yX1_become, cX1_become, 3, none)
theorem qX1_become : mMeth mX1_become 1 := ⟨(lw_use_in (u4 (List.mem_of_getElem? (i := 12) rfl)) rfl), (lw_use_in (u1 (List.mem_of_getElem? (i := 3) rfl)) rfl), ⟨by decide +kernel, by decide +kernel⟩, Nat.le_of_ble_eq_true rfl, by decide +kernel⟩
theorem vX1_become : mVirt mX1_become := ⟨(lw_use_in (u4 (List.mem_of_getElem? (i := 10) rfl)) rfl), (lw_use_in (u4 (List.mem_of_getElem? (i := 11) rfl)) rfl)⟩
def mX2_init : mM := (yX2_init, cX2_init, 1, none)
theorem qX2_init : mMeth mX2_init 0 := ⟨(lw_use_in (u1 (List.mem_of_getElem? (i := 35) rfl)) rfl), (lw_use_in (u1 (List.mem_of_getElem? (i := 2) rfl)) rfl), ⟨by decide +kernel, by decide +kernel⟩, Nat.le_of_ble_eq_true rfl, by decide +kernel⟩
theorem iX2_init : Cond.instanceMethod yX2_init ∈ lw_use := (lw_use_in (u1 (List.mem_of_getElem? (i := 34) rfl)) rfl)
def mX2_readThing : mM := (yX2_readThing, cX2_readThing, 2, some (FieldType.object "ScopeWarden$Step"))
theorem qX2_readThing : mMeth mX2_readThing 0 := ⟨(lw_use_in (u2 (List.mem_of_getElem? (i := 126) rfl)) rfl), (lw_use_in (u1 (List.mem_of_getElem? (i := 2) rfl)) rfl), ⟨by decide +kernel, by decide +kernel⟩, Nat.le_of_ble_eq_true rfl, by decide +kernel⟩
theorem vX2_readThing : mVirt mX2_readThing := ⟨(lw_use_in (u2 (List.mem_of_getElem? (i := 124) rfl)) rfl), (lw_use_in (u2 (List.mem_of_getElem? (i := 125) rfl)) rfl)⟩
def mX2_readTask : mM := (yX2_readTask, cX2_readTask, 2, some (FieldType.object "ScopeWarden$Step"))
theorem qX2_readTask : mMeth mX2_readTask 0 := ⟨(lw_use_in (u4 (List.mem_of_getElem? (i := 80) rfl)) rfl), (lw_use_in (u1 (List.mem_of_getElem? (i := 2) rfl)) rfl), ⟨by decide +kernel, by decide +kernel⟩, Nat.le_of_ble_eq_true rfl, by decide +kernel⟩
theorem vX2_readTask : mVirt mX2_readTask := ⟨(lw_use_in (u4 (List.mem_of_getElem? (i := 78) rfl)) rfl), (lw_use_in (u4 (List.mem_of_getElem? (i := 79) rfl)) rfl)⟩
def mX2_begin : mM := (yX2_begin, cX2_begin, 1, none)
theorem qX2_begin : mMeth mX2_begin 0 := ⟨(lw_use_in (u2 (List.mem_of_getElem? (i := 130) rfl)) rfl), (lw_use_in (u1 (List.mem_of_getElem? (i := 2) rfl)) rfl), ⟨by decide +kernel, by decide +kernel⟩, Nat.le_of_ble_eq_true rfl, by decide +kernel⟩
theorem vX2_begin : mVirt mX2_begin := ⟨(lw_use_in (u2 (List.mem_of_getElem? (i := 129) rfl)) rfl), (lw_use_in (u0 (List.mem_of_getElem? (i := 0) rfl)) rfl)⟩
def mX2_here : mM := (yX2_here, cX2_here, 2, some FieldType.int)
theorem qX2_here : mMeth mX2_here 0 := ⟨(lw_use_in (u2 (List.mem_of_getElem? (i := 173) rfl)) rfl), (lw_use_in (u1 (List.mem_of_getElem? (i := 2) rfl)) rfl), ⟨by decide +kernel, by decide +kernel⟩, Nat.le_of_ble_eq_true rfl, by decide +kernel⟩
theorem vX2_here : mVirt mX2_here := ⟨(lw_use_in (u2 (List.mem_of_getElem? (i := 172) rfl)) rfl), (lw_use_in (u0 (List.mem_of_getElem? (i := 2) rfl)) rfl)⟩
def mX2_failAt : mM := (yX2_failAt, cX2_failAt, 2, none)
theorem qX2_failAt : mMeth mX2_failAt 1 := ⟨(lw_use_in (u2 (List.mem_of_getElem? (i := 180) rfl)) rfl), (lw_use_in (u1 (List.mem_of_getElem? (i := 2) rfl)) rfl), ⟨by decide +kernel, by decide +kernel⟩, Nat.le_of_ble_eq_true rfl, by decide +kernel⟩
theorem vX2_failAt : mVirt mX2_failAt := ⟨(lw_use_in (u2 (List.mem_of_getElem? (i := 179) rfl)) rfl), (lw_use_in (u0 (List.mem_of_getElem? (i := 3) rfl)) rfl)⟩
def mX2_expect : mM := (yX2_expect, cX2_expect, 2, none)
theorem qX2_expect : mMeth mX2_expect 1 := ⟨(lw_use_in (u2 (List.mem_of_getElem? (i := 184) rfl)) rfl), (lw_use_in (u1 (List.mem_of_getElem? (i := 2) rfl)) rfl), ⟨by decide +kernel, by decide +kernel⟩, Nat.le_of_ble_eq_true rfl, by decide +kernel⟩
theorem vX2_expect : mVirt mX2_expect := ⟨(lw_use_in (u2 (List.mem_of_getElem? (i := 183) rfl)) rfl), (lw_use_in (u0 (List.mem_of_getElem? (i := 4) rfl)) rfl)⟩
def mX2_readSteps : mM := (yX2_readSteps, cX2_readSteps, 6, some (FieldType.object "ScopeWarden$Step"))
theorem qX2_readSteps : mMeth mX2_readSteps 2 := ⟨(lw_use_in (u2 (List.mem_of_getElem? (i := 188) rfl)) rfl), (lw_use_in (u1 (List.mem_of_getElem? (i := 2) rfl)) rfl), ⟨by decide +kernel, by decide +kernel⟩, Nat.le_of_ble_eq_true rfl, by decide +kernel⟩
theorem vX2_readSteps : mVirt mX2_readSteps := ⟨(lw_use_in (u2 (List.mem_of_getElem? (i := 187) rfl)) rfl), (lw_use_in (u0 (List.mem_of_getElem? (i := 5) rfl)) rfl)⟩
def mX2_readStep : mM := (yX2_readStep, cX2_readStep, 5, some (FieldType.object "ScopeWarden$Step"))
theorem qX2_readStep : mMeth mX2_readStep 2 := ⟨(lw_use_in (u2 (List.mem_of_getElem? (i := 192) rfl)) rfl), (lw_use_in (u1 (List.mem_of_getElem? (i := 2) rfl)) rfl), ⟨by decide +kernel, by decide +kernel⟩, Nat.le_of_ble_eq_true rfl, by decide +kernel⟩
theorem vX2_readStep : mVirt mX2_readStep := ⟨(lw_use_in (u2 (List.mem_of_getElem? (i := 191) rfl)) rfl), (lw_use_in (u0 (List.mem_of_getElem? (i := 6) rfl)) rfl)⟩
def mX2_mayBegin : mM := (yX2_mayBegin, cX2_mayBegin, 4, some FieldType.boolean)
theorem qX2_mayBegin : mMeth mX2_mayBegin 3 := ⟨(lw_use_in (u2 (List.mem_of_getElem? (i := 196) rfl)) rfl), (lw_use_in (u1 (List.mem_of_getElem? (i := 2) rfl)) rfl), ⟨by decide +kernel, by decide +kernel⟩, Nat.le_of_ble_eq_true rfl, by decide +kernel⟩
theorem vX2_mayBegin : mVirt mX2_mayBegin := ⟨(lw_use_in (u2 (List.mem_of_getElem? (i := 195) rfl)) rfl), (lw_use_in (u0 (List.mem_of_getElem? (i := 7) rfl)) rfl)⟩
def mX2_readCloser : mM := (yX2_readCloser, cX2_readCloser, 3, some (FieldType.object "ScopeWarden$Step"))
theorem qX2_readCloser : mMeth mX2_readCloser 1 := ⟨(lw_use_in (u2 (List.mem_of_getElem? (i := 216) rfl)) rfl), (lw_use_in (u1 (List.mem_of_getElem? (i := 2) rfl)) rfl), ⟨by decide +kernel, by decide +kernel⟩, Nat.le_of_ble_eq_true rfl, by decide +kernel⟩
theorem vX2_readCloser : mVirt mX2_readCloser := ⟨(lw_use_in (u2 (List.mem_of_getElem? (i := 215) rfl)) rfl), (lw_use_in (u0 (List.mem_of_getElem? (i := 12) rfl)) rfl)⟩
def mX2_readName : mM := (yX2_readName, cX2_readName, 4, some FieldType.long)
theorem qX2_readName : mMeth mX2_readName 0 := ⟨(lw_use_in (u2 (List.mem_of_getElem? (i := 169) rfl)) rfl), (lw_use_in (u1 (List.mem_of_getElem? (i := 2) rfl)) rfl), ⟨by decide +kernel, by decide +kernel⟩, Nat.le_of_ble_eq_true rfl, by decide +kernel⟩
theorem vX2_readName : mVirt mX2_readName := ⟨(lw_use_in (u2 (List.mem_of_getElem? (i := 168) rfl)) rfl), (lw_use_in (u0 (List.mem_of_getElem? (i := 1) rfl)) rfl)⟩
def mX2_isLetter : mM := (yX2_isLetter, cX2_isLetter, 1, some FieldType.boolean)
theorem qX2_isLetter : mMeth mX2_isLetter 1 := ⟨(lw_use_in (u2 (List.mem_of_getElem? (i := 176) rfl)) rfl), (lw_use_in (u1 (List.mem_of_getElem? (i := 2) rfl)) rfl), ⟨by decide +kernel, by decide +kernel⟩, Nat.le_of_ble_eq_true rfl, by decide +kernel⟩
theorem sX2_isLetter : Cond.static yX2_isLetter ∈ lw_use := (lw_use_in (u2 (List.mem_of_getElem? (i := 175) rfl)) rfl)
def mX2_readFigure : mM := (yX2_readFigure, cX2_readFigure, 3, some FieldType.int)
theorem qX2_readFigure : mMeth mX2_readFigure 1 := ⟨(lw_use_in (u2 (List.mem_of_getElem? (i := 200) rfl)) rfl), (lw_use_in (u1 (List.mem_of_getElem? (i := 2) rfl)) rfl), ⟨by decide +kernel, by decide +kernel⟩, Nat.le_of_ble_eq_true rfl, by decide +kernel⟩
theorem vX2_readFigure : mVirt mX2_readFigure := ⟨(lw_use_in (u2 (List.mem_of_getElem? (i := 199) rfl)) rfl), (lw_use_in (u0 (List.mem_of_getElem? (i := 8) rfl)) rfl)⟩
def mX2_readFigures : mM := (yX2_readFigures, cX2_readFigures, 4, some FieldType.int)
theorem qX2_readFigures : mMeth mX2_readFigures 1 := ⟨(lw_use_in (u2 (List.mem_of_getElem? (i := 208) rfl)) rfl), (lw_use_in (u1 (List.mem_of_getElem? (i := 2) rfl)) rfl), ⟨by decide +kernel, by decide +kernel⟩, Nat.le_of_ble_eq_true rfl, by decide +kernel⟩
theorem vX2_readFigures : mVirt mX2_readFigures := ⟨(lw_use_in (u2 (List.mem_of_getElem? (i := 207) rfl)) rfl), (lw_use_in (u0 (List.mem_of_getElem? (i := 10) rfl)) rfl)⟩
def mX2_readValue : mM := (yX2_readValue, cX2_readValue, 3, some FieldType.int)
theorem qX2_readValue : mMeth mX2_readValue 0 := ⟨(lw_use_in (u2 (List.mem_of_getElem? (i := 204) rfl)) rfl), (lw_use_in (u1 (List.mem_of_getElem? (i := 2) rfl)) rfl), ⟨by decide +kernel, by decide +kernel⟩, Nat.le_of_ble_eq_true rfl, by decide +kernel⟩
theorem vX2_readValue : mVirt mX2_readValue := ⟨(lw_use_in (u2 (List.mem_of_getElem? (i := 203) rfl)) rfl), (lw_use_in (u0 (List.mem_of_getElem? (i := 9) rfl)) rfl)⟩
def mX2_readFaultNumber : mM := (yX2_readFaultNumber, cX2_readFaultNumber, 3, some FieldType.int)
theorem qX2_readFaultNumber : mMeth mX2_readFaultNumber 0 := ⟨(lw_use_in (u2 (List.mem_of_getElem? (i := 212) rfl)) rfl), (lw_use_in (u1 (List.mem_of_getElem? (i := 2) rfl)) rfl), ⟨by decide +kernel, by decide +kernel⟩, Nat.le_of_ble_eq_true rfl, by decide +kernel⟩
theorem vX2_readFaultNumber : mVirt mX2_readFaultNumber := ⟨(lw_use_in (u2 (List.mem_of_getElem? (i := 211) rfl)) rfl), (lw_use_in (u0 (List.mem_of_getElem? (i := 11) rfl)) rfl)⟩
def mX3_init : mM := (yX3_init, cX3_init, 1, none)
theorem qX3_init : mMeth mX3_init 0 := ⟨(lw_use_in (u1 (List.mem_of_getElem? (i := 91) rfl)) rfl), (lw_use_in (u1 (List.mem_of_getElem? (i := 5) rfl)) rfl), ⟨by decide +kernel, by decide +kernel⟩, Nat.le_of_ble_eq_true rfl, by decide +kernel⟩
theorem iX3_init : Cond.instanceMethod yX3_init ∈ lw_use := (lw_use_in (u1 (List.mem_of_getElem? (i := 90) rfl)) rfl)
def mX3_endInCall : mM := (yX3_endInCall, cX3_endInCall, 2, some FieldType.int)
theorem qX3_endInCall : mMeth mX3_endInCall 1 := ⟨(lw_use_in (u3 (List.mem_of_getElem? (i := 1) rfl)) rfl), (lw_use_in (u1 (List.mem_of_getElem? (i := 5) rfl)) rfl), ⟨by decide +kernel, by decide +kernel⟩, Nat.le_of_ble_eq_true rfl, by decide +kernel⟩
theorem vX3_endInCall : mVirt mX3_endInCall := ⟨(lw_use_in (u2 (List.mem_of_getElem? (i := 239) rfl)) rfl), (lw_use_in (u3 (List.mem_of_getElem? (i := 0) rfl)) rfl)⟩
def mX3_tickUpTo : mM := (yX3_tickUpTo, cX3_tickUpTo, 3, some FieldType.int)
theorem qX3_tickUpTo : mMeth mX3_tickUpTo 1 := ⟨(lw_use_in (u4 (List.mem_of_getElem? (i := 38) rfl)) rfl), (lw_use_in (u1 (List.mem_of_getElem? (i := 5) rfl)) rfl), ⟨by decide +kernel, by decide +kernel⟩, Nat.le_of_ble_eq_true rfl, by decide +kernel⟩
theorem vX3_tickUpTo : mVirt mX3_tickUpTo := ⟨(lw_use_in (u4 (List.mem_of_getElem? (i := 36) rfl)) rfl), (lw_use_in (u4 (List.mem_of_getElem? (i := 37) rfl)) rfl)⟩
def mX3_tickOnce : mM := (yX3_tickOnce, cX3_tickOnce, 2, some FieldType.int)
theorem qX3_tickOnce : mMeth mX3_tickOnce 0 := ⟨(lw_use_in (u4 (List.mem_of_getElem? (i := 94) rfl)) rfl), (lw_use_in (u1 (List.mem_of_getElem? (i := 5) rfl)) rfl), ⟨by decide +kernel, by decide +kernel⟩, Nat.le_of_ble_eq_true rfl, by decide +kernel⟩
theorem vX3_tickOnce : mVirt mX3_tickOnce := ⟨(lw_use_in (u4 (List.mem_of_getElem? (i := 92) rfl)) rfl), (lw_use_in (u4 (List.mem_of_getElem? (i := 93) rfl)) rfl)⟩
def mX3_beginTurn : mM := (yX3_beginTurn, cX3_beginTurn, 3, some FieldType.int)
theorem qX3_beginTurn : mMeth mX3_beginTurn 0 := ⟨(lw_use_in (u4 (List.mem_of_getElem? (i := 42) rfl)) rfl), (lw_use_in (u1 (List.mem_of_getElem? (i := 5) rfl)) rfl), ⟨by decide +kernel, by decide +kernel⟩, Nat.le_of_ble_eq_true rfl, by decide +kernel⟩
theorem vX3_beginTurn : mVirt mX3_beginTurn := ⟨(lw_use_in (u4 (List.mem_of_getElem? (i := 41) rfl)) rfl), (lw_use_in (u0 (List.mem_of_getElem? (i := 34) rfl)) rfl)⟩
def mX3_work : mM := (yX3_work, cX3_work, 3, none)
theorem qX3_work : mMeth mX3_work 0 := ⟨(lw_use_in (u3 (List.mem_of_getElem? (i := 16) rfl)) rfl), (lw_use_in (u1 (List.mem_of_getElem? (i := 5) rfl)) rfl), ⟨by decide +kernel, by decide +kernel⟩, Nat.le_of_ble_eq_true rfl, by decide +kernel⟩
theorem vX3_work : mVirt mX3_work := ⟨(lw_use_in (u3 (List.mem_of_getElem? (i := 15) rfl)) rfl), (lw_use_in (u0 (List.mem_of_getElem? (i := 14) rfl)) rfl)⟩
def mX3_leave : mM := (yX3_leave, cX3_leave, 1, none)
theorem qX3_leave : mMeth mX3_leave 0 := ⟨(lw_use_in (u3 (List.mem_of_getElem? (i := 37) rfl)) rfl), (lw_use_in (u1 (List.mem_of_getElem? (i := 5) rfl)) rfl), ⟨by decide +kernel, by decide +kernel⟩, Nat.le_of_ble_eq_true rfl, by decide +kernel⟩
theorem vX3_leave : mVirt mX3_leave := ⟨(lw_use_in (u3 (List.mem_of_getElem? (i := 36) rfl)) rfl), (lw_use_in (u0 (List.mem_of_getElem? (i := 16) rfl)) rfl)⟩
def mX3_beginToEnd : mM := (yX3_beginToEnd, cX3_beginToEnd, 3, none)
theorem qX3_beginToEnd : mMeth mX3_beginToEnd 1 := ⟨(lw_use_in (u3 (List.mem_of_getElem? (i := 9) rfl)) rfl), (lw_use_in (u1 (List.mem_of_getElem? (i := 5) rfl)) rfl), ⟨by decide +kernel, by decide +kernel⟩, Nat.le_of_ble_eq_true rfl, by decide +kernel⟩
theorem vX3_beginToEnd : mVirt mX3_beginToEnd := ⟨(lw_use_in (u3 (List.mem_of_getElem? (i := 8) rfl)) rfl), (lw_use_in (u0 (List.mem_of_getElem? (i := 13) rfl)) rfl)⟩
def mX3_goOnClosing : mM := (yX3_goOnClosing, cX3_goOnClosing, 5, none)
theorem qX3_goOnClosing : mMeth mX3_goOnClosing 1 := ⟨(lw_use_in (u3 (List.mem_of_getElem? (i := 127) rfl)) rfl), (lw_use_in (u1 (List.mem_of_getElem? (i := 5) rfl)) rfl), ⟨by decide +kernel, by decide +kernel⟩, Nat.le_of_ble_eq_true rfl, by decide +kernel⟩
theorem vX3_goOnClosing : mVirt mX3_goOnClosing := ⟨(lw_use_in (u3 (List.mem_of_getElem? (i := 126) rfl)) rfl), (lw_use_in (u0 (List.mem_of_getElem? (i := 29) rfl)) rfl)⟩
def mX3_goOnShutting : mM := (yX3_goOnShutting, cX3_goOnShutting, 4, none)
theorem qX3_goOnShutting : mMeth mX3_goOnShutting 1 := ⟨(lw_use_in (u3 (List.mem_of_getElem? (i := 108) rfl)) rfl), (lw_use_in (u1 (List.mem_of_getElem? (i := 5) rfl)) rfl), ⟨by decide +kernel, by decide +kernel⟩, Nat.le_of_ble_eq_true rfl, by decide +kernel⟩
theorem vX3_goOnShutting : mVirt mX3_goOnShutting := ⟨(lw_use_in (u3 (List.mem_of_getElem? (i := 107) rfl)) rfl), (lw_use_in (u0 (List.mem_of_getElem? (i := 26) rfl)) rfl)⟩
def mX3_goOnWithTask : mM := (yX3_goOnWithTask, cX3_goOnWithTask, 5, none)
theorem qX3_goOnWithTask : mMeth mX3_goOnWithTask 1 := ⟨(lw_use_in (u3 (List.mem_of_getElem? (i := 29) rfl)) rfl), (lw_use_in (u1 (List.mem_of_getElem? (i := 5) rfl)) rfl), ⟨by decide +kernel, by decide +kernel⟩, Nat.le_of_ble_eq_true rfl, by decide +kernel⟩
theorem vX3_goOnWithTask : mVirt mX3_goOnWithTask := ⟨(lw_use_in (u3 (List.mem_of_getElem? (i := 28) rfl)) rfl), (lw_use_in (u0 (List.mem_of_getElem? (i := 15) rfl)) rfl)⟩
def mX3_goOnShuttingScopesOf : mM := (yX3_goOnShuttingScopesOf, cX3_goOnShuttingScopesOf, 3, none)
theorem qX3_goOnShuttingScopesOf : mMeth mX3_goOnShuttingScopesOf 1 := ⟨(lw_use_in (u3 (List.mem_of_getElem? (i := 41) rfl)) rfl), (lw_use_in (u1 (List.mem_of_getElem? (i := 5) rfl)) rfl), ⟨by decide +kernel, by decide +kernel⟩, Nat.le_of_ble_eq_true rfl, by decide +kernel⟩
theorem vX3_goOnShuttingScopesOf : mVirt mX3_goOnShuttingScopesOf := ⟨(lw_use_in (u3 (List.mem_of_getElem? (i := 40) rfl)) rfl), (lw_use_in (u0 (List.mem_of_getElem? (i := 17) rfl)) rfl)⟩
def mX3_perform : mM := (yX3_perform, cX3_perform, 4, some FieldType.int)
theorem qX3_perform : mMeth mX3_perform 2 := ⟨(lw_use_in (u3 (List.mem_of_getElem? (i := 59) rfl)) rfl), (lw_use_in (u1 (List.mem_of_getElem? (i := 5) rfl)) rfl), ⟨by decide +kernel, by decide +kernel⟩, Nat.le_of_ble_eq_true rfl, by decide +kernel⟩
theorem vX3_perform : mVirt mX3_perform := ⟨(lw_use_in (u3 (List.mem_of_getElem? (i := 58) rfl)) rfl), (lw_use_in (u0 (List.mem_of_getElem? (i := 19) rfl)) rfl)⟩
def mX3_takeInto : mM := (yX3_takeInto, cX3_takeInto, 3, some FieldType.int)
theorem qX3_takeInto : mMeth mX3_takeInto 2 := ⟨(lw_use_in (u3 (List.mem_of_getElem? (i := 67) rfl)) rfl), (lw_use_in (u1 (List.mem_of_getElem? (i := 5) rfl)) rfl), ⟨by decide +kernel, by decide +kernel⟩, Nat.le_of_ble_eq_true rfl, by decide +kernel⟩
theorem vX3_takeInto : mVirt mX3_takeInto := ⟨(lw_use_in (u3 (List.mem_of_getElem? (i := 66) rfl)) rfl), (lw_use_in (u0 (List.mem_of_getElem? (i := 20) rfl)) rfl)⟩
def mX3_closeNamed : mM := (yX3_closeNamed, cX3_closeNamed, 4, some FieldType.int)
theorem qX3_closeNamed : mMeth mX3_closeNamed 1 := ⟨(lw_use_in (u3 (List.mem_of_getElem? (i := 78) rfl)) rfl), (lw_use_in (u1 (List.mem_of_getElem? (i := 5) rfl)) rfl), ⟨by decide +kernel, by decide +kernel⟩, Nat.le_of_ble_eq_true rfl, by decide +kernel⟩
theorem vX3_closeNamed : mVirt mX3_closeNamed := ⟨(lw_use_in (u3 (List.mem_of_getElem? (i := 77) rfl)) rfl), (lw_use_in (u0 (List.mem_of_getElem? (i := 21) rfl)) rfl)⟩
def mX3_moveNamed : mM := (yX3_moveNamed, cX3_moveNamed, 5, some FieldType.int)
theorem qX3_moveNamed : mMeth mX3_moveNamed 2 := ⟨(lw_use_in (u3 (List.mem_of_getElem? (i := 82) rfl)) rfl), (lw_use_in (u1 (List.mem_of_getElem? (i := 5) rfl)) rfl), ⟨by decide +kernel, by decide +kernel⟩, Nat.le_of_ble_eq_true rfl, by decide +kernel⟩
theorem vX3_moveNamed : mVirt mX3_moveNamed := ⟨(lw_use_in (u3 (List.mem_of_getElem? (i := 81) rfl)) rfl), (lw_use_in (u0 (List.mem_of_getElem? (i := 22) rfl)) rfl)⟩
def mX3_openInner : mM := (yX3_openInner, cX3_openInner, 2, some FieldType.int)
theorem qX3_openInner : mMeth mX3_openInner 0 := ⟨(lw_use_in (u3 (List.mem_of_getElem? (i := 98) rfl)) rfl), (lw_use_in (u1 (List.mem_of_getElem? (i := 5) rfl)) rfl), ⟨by decide +kernel, by decide +kernel⟩, Nat.le_of_ble_eq_true rfl, by decide +kernel⟩
theorem vX3_openInner : mVirt mX3_openInner := ⟨(lw_use_in (u3 (List.mem_of_getElem? (i := 97) rfl)) rfl), (lw_use_in (u0 (List.mem_of_getElem? (i := 24) rfl)) rfl)⟩
def mX3_shutInner : mM := (yX3_shutInner, cX3_shutInner, 3, some FieldType.int)
theorem qX3_shutInner : mMeth mX3_shutInner 0 := ⟨(lw_use_in (u3 (List.mem_of_getElem? (i := 104) rfl)) rfl), (lw_use_in (u1 (List.mem_of_getElem? (i := 5) rfl)) rfl), ⟨by decide +kernel, by decide +kernel⟩, Nat.le_of_ble_eq_true rfl, by decide +kernel⟩
theorem vX3_shutInner : mVirt mX3_shutInner := ⟨(lw_use_in (u3 (List.mem_of_getElem? (i := 103) rfl)) rfl), (lw_use_in (u0 (List.mem_of_getElem? (i := 25) rfl)) rfl)⟩
def mX3_askToCancel : mM := (yX3_askToCancel, cX3_askToCancel, 3, some FieldType.int)
theorem qX3_askToCancel : mMeth mX3_askToCancel 1 := ⟨(lw_use_in (u3 (List.mem_of_getElem? (i := 94) rfl)) rfl), (lw_use_in (u1 (List.mem_of_getElem? (i := 5) rfl)) rfl), ⟨by decide +kernel, by decide +kernel⟩, Nat.le_of_ble_eq_true rfl, by decide +kernel⟩
theorem vX3_askToCancel : mVirt mX3_askToCancel := ⟨(lw_use_in (u3 (List.mem_of_getElem? (i := 93) rfl)) rfl), (lw_use_in (u0 (List.mem_of_getElem? (i := 23) rfl)) rfl)⟩
def mX4_init : mM := (yX4_init, cX4_init, 1, none)
theorem qX4_init : mMeth mX4_init 0 := ⟨(lw_use_in (u1 (List.mem_of_getElem? (i := 171) rfl)) rfl), (lw_use_in (u1 (List.mem_of_getElem? (i := 9) rfl)) rfl), ⟨by decide +kernel, by decide +kernel⟩, Nat.le_of_ble_eq_true rfl, by decide +kernel⟩
theorem iX4_init : Cond.instanceMethod yX4_init ∈ lw_use := (lw_use_in (u1 (List.mem_of_getElem? (i := 170) rfl)) rfl)
def mX4_become : mM := (yX4_become, cX4_become, 2, none)
theorem qX4_become : mMeth mX4_become 1 := ⟨(lw_use_in (u4 (List.mem_of_getElem? (i := 0) rfl)) rfl), (lw_use_in (u1 (List.mem_of_getElem? (i := 9) rfl)) rfl), ⟨by decide +kernel, by decide +kernel⟩, Nat.le_of_ble_eq_true rfl, by decide +kernel⟩
theorem vX4_become : mVirt mX4_become := ⟨(lw_use_in (u3 (List.mem_of_getElem? (i := 238) rfl)) rfl), (lw_use_in (u3 (List.mem_of_getElem? (i := 239) rfl)) rfl)⟩
def mX5_init : mM := (yX5_init, cX5_init, 1, none)
theorem qX5_init : mMeth mX5_init 0 := ⟨(lw_use_in (u1 (List.mem_of_getElem? (i := 76) rfl)) rfl), (lw_use_in (u1 (List.mem_of_getElem? (i := 4) rfl)) rfl), ⟨by decide +kernel, by decide +kernel⟩, Nat.le_of_ble_eq_true rfl, by decide +kernel⟩
theorem iX5_init : Cond.instanceMethod yX5_init ∈ lw_use := (lw_use_in (u1 (List.mem_of_getElem? (i := 75) rfl)) rfl)
def mX6_init : mM := (yX6_init, cX6_init, 2, none)
theorem qX6_init : mMeth mX6_init 1 := ⟨(lw_use_in (u2 (List.mem_of_getElem? (i := 135) rfl)) rfl), (lw_use_in (u1 (List.mem_of_getElem? (i := 22) rfl)) rfl), ⟨by decide +kernel, by decide +kernel⟩, Nat.le_of_ble_eq_true rfl, by decide +kernel⟩
theorem iX6_init : Cond.instanceMethod yX6_init ∈ lw_use := (lw_use_in (u2 (List.mem_of_getElem? (i := 134) rfl)) rfl)
def mX7_init : mM := (yX7_init, cX7_init, 1, none)
theorem qX7_init : mMeth mX7_init 0 := ⟨(lw_use_in (u1 (List.mem_of_getElem? (i := 194) rfl)) rfl), (lw_use_in (u1 (List.mem_of_getElem? (i := 10) rfl)) rfl), ⟨by decide +kernel, by decide +kernel⟩, Nat.le_of_ble_eq_true rfl, by decide +kernel⟩
theorem iX7_init : Cond.instanceMethod yX7_init ∈ lw_use := (lw_use_in (u1 (List.mem_of_getElem? (i := 193) rfl)) rfl)
def mX7_start : mM := (yX7_start, cX7_start, 4, none)
theorem qX7_start : mMeth mX7_start 3 := ⟨(lw_use_in (u4 (List.mem_of_getElem? (i := 8) rfl)) rfl), (lw_use_in (u1 (List.mem_of_getElem? (i := 10) rfl)) rfl), ⟨by decide +kernel, by decide +kernel⟩, Nat.le_of_ble_eq_true rfl, by decide +kernel⟩
theorem vX7_start : mVirt mX7_start := ⟨(lw_use_in (u4 (List.mem_of_getElem? (i := 6) rfl)) rfl), (lw_use_in (u4 (List.mem_of_getElem? (i := 7) rfl)) rfl)⟩
def mX7_become : mM := (yX7_become, cX7_become, 2, none)
theorem qX7_become : mMeth mX7_become 1 := ⟨(lw_use_in (u4 (List.mem_of_getElem? (i := 4) rfl)) rfl), (lw_use_in (u1 (List.mem_of_getElem? (i := 10) rfl)) rfl), ⟨by decide +kernel, by decide +kernel⟩, Nat.le_of_ble_eq_true rfl, by decide +kernel⟩
theorem vX7_become : mVirt mX7_become := ⟨(lw_use_in (u4 (List.mem_of_getElem? (i := 2) rfl)) rfl), (lw_use_in (u4 (List.mem_of_getElem? (i := 3) rfl)) rfl)⟩
def mX7_comesAheadOf : mM := (yX7_comesAheadOf, cX7_comesAheadOf, 2, some FieldType.boolean)
theorem qX7_comesAheadOf : mMeth mX7_comesAheadOf 1 := ⟨(lw_use_in (u4 (List.mem_of_getElem? (i := 58) rfl)) rfl), (lw_use_in (u1 (List.mem_of_getElem? (i := 10) rfl)) rfl), ⟨by decide +kernel, by decide +kernel⟩, Nat.le_of_ble_eq_true rfl, by decide +kernel⟩
theorem vX7_comesAheadOf : mVirt mX7_comesAheadOf := ⟨(lw_use_in (u4 (List.mem_of_getElem? (i := 56) rfl)) rfl), (lw_use_in (u4 (List.mem_of_getElem? (i := 57) rfl)) rfl)⟩
def mX8_init : mM := (yX8_init, cX8_init, 1, none)
theorem qX8_init : mMeth mX8_init 0 := ⟨(lw_use_in (u1 (List.mem_of_getElem? (i := 133) rfl)) rfl), (lw_use_in (u1 (List.mem_of_getElem? (i := 8) rfl)) rfl), ⟨by decide +kernel, by decide +kernel⟩, Nat.le_of_ble_eq_true rfl, by decide +kernel⟩
theorem iX8_init : Cond.instanceMethod yX8_init ∈ lw_use := (lw_use_in (u1 (List.mem_of_getElem? (i := 132) rfl)) rfl)
def mX8_become : mM := (yX8_become, cX8_become, 2, none)
theorem qX8_become : mMeth mX8_become 1 := ⟨(lw_use_in (u3 (List.mem_of_getElem? (i := 236) rfl)) rfl), (lw_use_in (u1 (List.mem_of_getElem? (i := 8) rfl)) rfl), ⟨by decide +kernel, by decide +kernel⟩, Nat.le_of_ble_eq_true rfl, by decide +kernel⟩
theorem vX8_become : mVirt mX8_become := ⟨(lw_use_in (u3 (List.mem_of_getElem? (i := 234) rfl)) rfl), (lw_use_in (u3 (List.mem_of_getElem? (i := 235) rfl)) rfl)⟩
def mX9_init : mM := (yX9_init, cX9_init, 2, none)
theorem qX9_init : mMeth mX9_init 0 := ⟨(lw_use_in (u1 (List.mem_of_getElem? (i := 97) rfl)) rfl), (lw_use_in (u1 (List.mem_of_getElem? (i := 6) rfl)) rfl), ⟨by decide +kernel, by decide +kernel⟩, Nat.le_of_ble_eq_true rfl, by decide +kernel⟩
theorem iX9_init : Cond.instanceMethod yX9_init ∈ lw_use := (lw_use_in (u1 (List.mem_of_getElem? (i := 96) rfl)) rfl)
def mX9_become : mM := (yX9_become, cX9_become, 3, none)
theorem qX9_become : mMeth mX9_become 1 := ⟨(lw_use_in (u3 (List.mem_of_getElem? (i := 232) rfl)) rfl), (lw_use_in (u1 (List.mem_of_getElem? (i := 6) rfl)) rfl), ⟨by decide +kernel, by decide +kernel⟩, Nat.le_of_ble_eq_true rfl, by decide +kernel⟩
theorem vX9_become : mVirt mX9_become := ⟨(lw_use_in (u3 (List.mem_of_getElem? (i := 230) rfl)) rfl), (lw_use_in (u3 (List.mem_of_getElem? (i := 231) rfl)) rfl)⟩
def mX9_thingAt : mM := (yX9_thingAt, cX9_thingAt, 2, some (FieldType.object "ScopeWarden$Thing"))
theorem qX9_thingAt : mMeth mX9_thingAt 1 := ⟨(lw_use_in (u2 (List.mem_of_getElem? (i := 232) rfl)) rfl), (lw_use_in (u1 (List.mem_of_getElem? (i := 6) rfl)) rfl), ⟨by decide +kernel, by decide +kernel⟩, Nat.le_of_ble_eq_true rfl, by decide +kernel⟩
theorem vX9_thingAt : mVirt mX9_thingAt := ⟨(lw_use_in (u2 (List.mem_of_getElem? (i := 230) rfl)) rfl), (lw_use_in (u2 (List.mem_of_getElem? (i := 231) rfl)) rfl)⟩
def mX9_scopeAt : mM := (yX9_scopeAt, cX9_scopeAt, 2, some (FieldType.object "ScopeWarden$Scope"))
theorem qX9_scopeAt : mMeth mX9_scopeAt 1 := ⟨(lw_use_in (u2 (List.mem_of_getElem? (i := 10) rfl)) rfl), (lw_use_in (u1 (List.mem_of_getElem? (i := 6) rfl)) rfl), ⟨by decide +kernel, by decide +kernel⟩, Nat.le_of_ble_eq_true rfl, by decide +kernel⟩
theorem vX9_scopeAt : mVirt mX9_scopeAt := ⟨(lw_use_in (u2 (List.mem_of_getElem? (i := 8) rfl)) rfl), (lw_use_in (u2 (List.mem_of_getElem? (i := 9) rfl)) rfl)⟩
def mX9_taskAt : mM := (yX9_taskAt, cX9_taskAt, 2, some (FieldType.object "ScopeWarden$Task"))
theorem qX9_taskAt : mMeth mX9_taskAt 1 := ⟨(lw_use_in (u3 (List.mem_of_getElem? (i := 33) rfl)) rfl), (lw_use_in (u1 (List.mem_of_getElem? (i := 6) rfl)) rfl), ⟨by decide +kernel, by decide +kernel⟩, Nat.le_of_ble_eq_true rfl, by decide +kernel⟩
theorem vX9_taskAt : mVirt mX9_taskAt := ⟨(lw_use_in (u3 (List.mem_of_getElem? (i := 31) rfl)) rfl), (lw_use_in (u3 (List.mem_of_getElem? (i := 32) rfl)) rfl)⟩
def mX9_thingsAreFull : mM := (yX9_thingsAreFull, cX9_thingsAreFull, 1, some FieldType.boolean)
theorem qX9_thingsAreFull : mMeth mX9_thingsAreFull 0 := ⟨(lw_use_in (u2 (List.mem_of_getElem? (i := 220) rfl)) rfl), (lw_use_in (u1 (List.mem_of_getElem? (i := 6) rfl)) rfl), ⟨by decide +kernel, by decide +kernel⟩, Nat.le_of_ble_eq_true rfl, by decide +kernel⟩
theorem vX9_thingsAreFull : mVirt mX9_thingsAreFull := ⟨(lw_use_in (u2 (List.mem_of_getElem? (i := 218) rfl)) rfl), (lw_use_in (u2 (List.mem_of_getElem? (i := 219) rfl)) rfl)⟩
def mX9_scopesAreFull : mM := (yX9_scopesAreFull, cX9_scopesAreFull, 1, some FieldType.boolean)
theorem qX9_scopesAreFull : mMeth mX9_scopesAreFull 0 := ⟨(lw_use_in (u2 (List.mem_of_getElem? (i := 110) rfl)) rfl), (lw_use_in (u1 (List.mem_of_getElem? (i := 6) rfl)) rfl), ⟨by decide +kernel, by decide +kernel⟩, Nat.le_of_ble_eq_true rfl, by decide +kernel⟩
theorem vX9_scopesAreFull : mVirt mX9_scopesAreFull := ⟨(lw_use_in (u2 (List.mem_of_getElem? (i := 108) rfl)) rfl), (lw_use_in (u2 (List.mem_of_getElem? (i := 109) rfl)) rfl)⟩
def mX9_tasksAreFull : mM := (yX9_tasksAreFull, cX9_tasksAreFull, 1, some FieldType.boolean)
theorem qX9_tasksAreFull : mMeth mX9_tasksAreFull 0 := ⟨(lw_use_in (u4 (List.mem_of_getElem? (i := 76) rfl)) rfl), (lw_use_in (u1 (List.mem_of_getElem? (i := 6) rfl)) rfl), ⟨by decide +kernel, by decide +kernel⟩, Nat.le_of_ble_eq_true rfl, by decide +kernel⟩
theorem vX9_tasksAreFull : mVirt mX9_tasksAreFull := ⟨(lw_use_in (u4 (List.mem_of_getElem? (i := 74) rfl)) rfl), (lw_use_in (u4 (List.mem_of_getElem? (i := 75) rfl)) rfl)⟩
def mX9_addThing : mM := (yX9_addThing, cX9_addThing, 5, some FieldType.int)
theorem qX9_addThing : mMeth mX9_addThing 2 := ⟨(lw_use_in (u2 (List.mem_of_getElem? (i := 228) rfl)) rfl), (lw_use_in (u1 (List.mem_of_getElem? (i := 6) rfl)) rfl), ⟨by decide +kernel, by decide +kernel⟩, Nat.le_of_ble_eq_true rfl, by decide +kernel⟩
theorem vX9_addThing : mVirt mX9_addThing := ⟨(lw_use_in (u2 (List.mem_of_getElem? (i := 226) rfl)) rfl), (lw_use_in (u2 (List.mem_of_getElem? (i := 227) rfl)) rfl)⟩
def mX9_addScope : mM := (yX9_addScope, cX9_addScope, 5, some FieldType.int)
theorem qX9_addScope : mMeth mX9_addScope 2 := ⟨(lw_use_in (u2 (List.mem_of_getElem? (i := 114) rfl)) rfl), (lw_use_in (u1 (List.mem_of_getElem? (i := 6) rfl)) rfl), ⟨by decide +kernel, by decide +kernel⟩, Nat.le_of_ble_eq_true rfl, by decide +kernel⟩
theorem vX9_addScope : mVirt mX9_addScope := ⟨(lw_use_in (u2 (List.mem_of_getElem? (i := 112) rfl)) rfl), (lw_use_in (u2 (List.mem_of_getElem? (i := 113) rfl)) rfl)⟩
def mX9_addTask : mM := (yX9_addTask, cX9_addTask, 6, some FieldType.int)
theorem qX9_addTask : mMeth mX9_addTask 3 := ⟨(lw_use_in (u4 (List.mem_of_getElem? (i := 84) rfl)) rfl), (lw_use_in (u1 (List.mem_of_getElem? (i := 6) rfl)) rfl), ⟨by decide +kernel, by decide +kernel⟩, Nat.le_of_ble_eq_true rfl, by decide +kernel⟩
theorem vX9_addTask : mVirt mX9_addTask := ⟨(lw_use_in (u4 (List.mem_of_getElem? (i := 82) rfl)) rfl), (lw_use_in (u4 (List.mem_of_getElem? (i := 83) rfl)) rfl)⟩
def mX9_moveThing : mM := (yX9_moveThing, cX9_moveThing, 4, none)
theorem qX9_moveThing : mMeth mX9_moveThing 2 := ⟨(lw_use_in (u3 (List.mem_of_getElem? (i := 86) rfl)) rfl), (lw_use_in (u1 (List.mem_of_getElem? (i := 6) rfl)) rfl), ⟨by decide +kernel, by decide +kernel⟩, Nat.le_of_ble_eq_true rfl, by decide +kernel⟩
theorem vX9_moveThing : mVirt mX9_moveThing := ⟨(lw_use_in (u3 (List.mem_of_getElem? (i := 84) rfl)) rfl), (lw_use_in (u3 (List.mem_of_getElem? (i := 85) rfl)) rfl)⟩
def mX9_isOpen : mM := (yX9_isOpen, cX9_isOpen, 3, some FieldType.boolean)
theorem qX9_isOpen : mMeth mX9_isOpen 1 := ⟨(lw_use_in (u3 (List.mem_of_getElem? (i := 71) rfl)) rfl), (lw_use_in (u1 (List.mem_of_getElem? (i := 6) rfl)) rfl), ⟨by decide +kernel, by decide +kernel⟩, Nat.le_of_ble_eq_true rfl, by decide +kernel⟩
theorem vX9_isOpen : mVirt mX9_isOpen := ⟨(lw_use_in (u3 (List.mem_of_getElem? (i := 69) rfl)) rfl), (lw_use_in (u3 (List.mem_of_getElem? (i := 70) rfl)) rfl)⟩
def mX9_isHeld : mM := (yX9_isHeld, cX9_isHeld, 3, some FieldType.boolean)
theorem qX9_isHeld : mMeth mX9_isHeld 1 := ⟨(lw_use_in (u3 (List.mem_of_getElem? (i := 118) rfl)) rfl), (lw_use_in (u1 (List.mem_of_getElem? (i := 6) rfl)) rfl), ⟨by decide +kernel, by decide +kernel⟩, Nat.le_of_ble_eq_true rfl, by decide +kernel⟩
theorem vX9_isHeld : mVirt mX9_isHeld := ⟨(lw_use_in (u3 (List.mem_of_getElem? (i := 117) rfl)) rfl), (lw_use_in (u0 (List.mem_of_getElem? (i := 27) rfl)) rfl)⟩
def mX9_isReady : mM := (yX9_isReady, cX9_isReady, 3, some FieldType.boolean)
theorem qX9_isReady : mMeth mX9_isReady 1 := ⟨(lw_use_in (u4 (List.mem_of_getElem? (i := 50) rfl)) rfl), (lw_use_in (u1 (List.mem_of_getElem? (i := 6) rfl)) rfl), ⟨by decide +kernel, by decide +kernel⟩, Nat.le_of_ble_eq_true rfl, by decide +kernel⟩
theorem vX9_isReady : mVirt mX9_isReady := ⟨(lw_use_in (u4 (List.mem_of_getElem? (i := 48) rfl)) rfl), (lw_use_in (u4 (List.mem_of_getElem? (i := 49) rfl)) rfl)⟩
def mX9_ownerOf : mM := (yX9_ownerOf, cX9_ownerOf, 3, some FieldType.int)
theorem qX9_ownerOf : mMeth mX9_ownerOf 1 := ⟨(lw_use_in (u3 (List.mem_of_getElem? (i := 122) rfl)) rfl), (lw_use_in (u1 (List.mem_of_getElem? (i := 6) rfl)) rfl), ⟨by decide +kernel, by decide +kernel⟩, Nat.le_of_ble_eq_true rfl, by decide +kernel⟩
theorem vX9_ownerOf : mVirt mX9_ownerOf := ⟨(lw_use_in (u3 (List.mem_of_getElem? (i := 121) rfl)) rfl), (lw_use_in (u0 (List.mem_of_getElem? (i := 28) rfl)) rfl)⟩
def mX9_entriesOf : mM := (yX9_entriesOf, cX9_entriesOf, 4, some FieldType.int)
theorem qX9_entriesOf : mMeth mX9_entriesOf 1 := ⟨(lw_use_in (u3 (List.mem_of_getElem? (i := 145) rfl)) rfl), (lw_use_in (u1 (List.mem_of_getElem? (i := 6) rfl)) rfl), ⟨by decide +kernel, by decide +kernel⟩, Nat.le_of_ble_eq_true rfl, by decide +kernel⟩
theorem vX9_entriesOf : mVirt mX9_entriesOf := ⟨(lw_use_in (u3 (List.mem_of_getElem? (i := 143) rfl)) rfl), (lw_use_in (u3 (List.mem_of_getElem? (i := 144) rfl)) rfl)⟩
def mX9_lastToEnd : mM := (yX9_lastToEnd, cX9_lastToEnd, 5, some FieldType.int)
theorem qX9_lastToEnd : mMeth mX9_lastToEnd 1 := ⟨(lw_use_in (u3 (List.mem_of_getElem? (i := 112) rfl)) rfl), (lw_use_in (u1 (List.mem_of_getElem? (i := 6) rfl)) rfl), ⟨by decide +kernel, by decide +kernel⟩, Nat.le_of_ble_eq_true rfl, by decide +kernel⟩
theorem vX9_lastToEnd : mVirt mX9_lastToEnd := ⟨(lw_use_in (u3 (List.mem_of_getElem? (i := 110) rfl)) rfl), (lw_use_in (u3 (List.mem_of_getElem? (i := 111) rfl)) rfl)⟩
def mX9_planned : mM := (yX9_planned, cX9_planned, 7, some FieldType.int)
theorem qX9_planned : mMeth mX9_planned 2 := ⟨(lw_use_in (u3 (List.mem_of_getElem? (i := 215) rfl)) rfl), (lw_use_in (u1 (List.mem_of_getElem? (i := 6) rfl)) rfl), ⟨by decide +kernel, by decide +kernel⟩, Nat.le_of_ble_eq_true rfl, by decide +kernel⟩
theorem vX9_planned : mVirt mX9_planned := ⟨(lw_use_in (u3 (List.mem_of_getElem? (i := 213) rfl)) rfl), (lw_use_in (u3 (List.mem_of_getElem? (i := 214) rfl)) rfl)⟩
def mX9_placeOfEntry : mM := (yX9_placeOfEntry, cX9_placeOfEntry, 3, some FieldType.int)
theorem qX9_placeOfEntry : mMeth mX9_placeOfEntry 1 := ⟨(lw_use_in (u3 (List.mem_of_getElem? (i := 220) rfl)) rfl), (lw_use_in (u1 (List.mem_of_getElem? (i := 6) rfl)) rfl), ⟨by decide +kernel, by decide +kernel⟩, Nat.le_of_ble_eq_true rfl, by decide +kernel⟩
theorem vX9_placeOfEntry : mVirt mX9_placeOfEntry := ⟨(lw_use_in (u3 (List.mem_of_getElem? (i := 219) rfl)) rfl), (lw_use_in (u0 (List.mem_of_getElem? (i := 32) rfl)) rfl)⟩
def mX9_isWithin : mM := (yX9_isWithin, cX9_isWithin, 5, some FieldType.boolean)
theorem qX9_isWithin : mMeth mX9_isWithin 2 := ⟨(lw_use_in (u3 (List.mem_of_getElem? (i := 157) rfl)) rfl), (lw_use_in (u1 (List.mem_of_getElem? (i := 6) rfl)) rfl), ⟨by decide +kernel, by decide +kernel⟩, Nat.le_of_ble_eq_true rfl, by decide +kernel⟩
theorem vX9_isWithin : mVirt mX9_isWithin := ⟨(lw_use_in (u3 (List.mem_of_getElem? (i := 155) rfl)) rfl), (lw_use_in (u3 (List.mem_of_getElem? (i := 156) rfl)) rfl)⟩
def mX9_scopesAbove : mM := (yX9_scopesAbove, cX9_scopesAbove, 4, some FieldType.int)
theorem qX9_scopesAbove : mMeth mX9_scopesAbove 1 := ⟨(lw_use_in (u3 (List.mem_of_getElem? (i := 161) rfl)) rfl), (lw_use_in (u1 (List.mem_of_getElem? (i := 6) rfl)) rfl), ⟨by decide +kernel, by decide +kernel⟩, Nat.le_of_ble_eq_true rfl, by decide +kernel⟩
theorem vX9_scopesAbove : mVirt mX9_scopesAbove := ⟨(lw_use_in (u3 (List.mem_of_getElem? (i := 159) rfl)) rfl), (lw_use_in (u3 (List.mem_of_getElem? (i := 160) rfl)) rfl)⟩
def mX9_heldWithin : mM := (yX9_heldWithin, cX9_heldWithin, 4, some FieldType.int)
theorem qX9_heldWithin : mMeth mX9_heldWithin 1 := ⟨(lw_use_in (u3 (List.mem_of_getElem? (i := 153) rfl)) rfl), (lw_use_in (u1 (List.mem_of_getElem? (i := 6) rfl)) rfl), ⟨by decide +kernel, by decide +kernel⟩, Nat.le_of_ble_eq_true rfl, by decide +kernel⟩
theorem vX9_heldWithin : mVirt mX9_heldWithin := ⟨(lw_use_in (u3 (List.mem_of_getElem? (i := 151) rfl)) rfl), (lw_use_in (u3 (List.mem_of_getElem? (i := 152) rfl)) rfl)⟩
def mX9_youngestWithin : mM := (yX9_youngestWithin, cX9_youngestWithin, 3, some FieldType.int)
theorem qX9_youngestWithin : mMeth mX9_youngestWithin 1 := ⟨(lw_use_in (u3 (List.mem_of_getElem? (i := 174) rfl)) rfl), (lw_use_in (u1 (List.mem_of_getElem? (i := 6) rfl)) rfl), ⟨by decide +kernel, by decide +kernel⟩, Nat.le_of_ble_eq_true rfl, by decide +kernel⟩
theorem vX9_youngestWithin : mVirt mX9_youngestWithin := ⟨(lw_use_in (u3 (List.mem_of_getElem? (i := 172) rfl)) rfl), (lw_use_in (u3 (List.mem_of_getElem? (i := 173) rfl)) rfl)⟩
def mX9_openScopes : mM := (yX9_openScopes, cX9_openScopes, 3, some FieldType.int)
theorem qX9_openScopes : mMeth mX9_openScopes 0 := ⟨(lw_use_in (u4 (List.mem_of_getElem? (i := 107) rfl)) rfl), (lw_use_in (u1 (List.mem_of_getElem? (i := 6) rfl)) rfl), ⟨by decide +kernel, by decide +kernel⟩, Nat.le_of_ble_eq_true rfl, by decide +kernel⟩
theorem vX9_openScopes : mVirt mX9_openScopes := ⟨(lw_use_in (u4 (List.mem_of_getElem? (i := 105) rfl)) rfl), (lw_use_in (u4 (List.mem_of_getElem? (i := 106) rfl)) rfl)⟩
def mX9_nameOf : mM := (yX9_nameOf, cX9_nameOf, 3, some FieldType.long)
theorem qX9_nameOf : mMeth mX9_nameOf 1 := ⟨(lw_use_in (u3 (List.mem_of_getElem? (i := 203) rfl)) rfl), (lw_use_in (u1 (List.mem_of_getElem? (i := 6) rfl)) rfl), ⟨by decide +kernel, by decide +kernel⟩, Nat.le_of_ble_eq_true rfl, by decide +kernel⟩
theorem vX9_nameOf : mVirt mX9_nameOf := ⟨(lw_use_in (u3 (List.mem_of_getElem? (i := 202) rfl)) rfl), (lw_use_in (u0 (List.mem_of_getElem? (i := 30) rfl)) rfl)⟩
def mX9_heldWithName : mM := (yX9_heldWithName, cX9_heldWithName, 4, some FieldType.int)
theorem qX9_heldWithName : mMeth mX9_heldWithName 1 := ⟨(lw_use_in (u2 (List.mem_of_getElem? (i := 224) rfl)) rfl), (lw_use_in (u1 (List.mem_of_getElem? (i := 6) rfl)) rfl), ⟨by decide +kernel, by decide +kernel⟩, Nat.le_of_ble_eq_true rfl, by decide +kernel⟩
theorem vX9_heldWithName : mVirt mX9_heldWithName := ⟨(lw_use_in (u2 (List.mem_of_getElem? (i := 222) rfl)) rfl), (lw_use_in (u2 (List.mem_of_getElem? (i := 223) rfl)) rfl)⟩
def mX9_heldAtPlace : mM := (yX9_heldAtPlace, cX9_heldAtPlace, 3, some FieldType.int)
theorem qX9_heldAtPlace : mMeth mX9_heldAtPlace 1 := ⟨(lw_use_in (u3 (List.mem_of_getElem? (i := 199) rfl)) rfl), (lw_use_in (u1 (List.mem_of_getElem? (i := 6) rfl)) rfl), ⟨by decide +kernel, by decide +kernel⟩, Nat.le_of_ble_eq_true rfl, by decide +kernel⟩
theorem vX9_heldAtPlace : mVirt mX9_heldAtPlace := ⟨(lw_use_in (u3 (List.mem_of_getElem? (i := 197) rfl)) rfl), (lw_use_in (u3 (List.mem_of_getElem? (i := 198) rfl)) rfl)⟩
def mX9_heldAhead : mM := (yX9_heldAhead, cX9_heldAhead, 5, some FieldType.int)
theorem qX9_heldAhead : mMeth mX9_heldAhead 1 := ⟨(lw_use_in (u3 (List.mem_of_getElem? (i := 207) rfl)) rfl), (lw_use_in (u1 (List.mem_of_getElem? (i := 6) rfl)) rfl), ⟨by decide +kernel, by decide +kernel⟩, Nat.le_of_ble_eq_true rfl, by decide +kernel⟩
theorem vX9_heldAhead : mVirt mX9_heldAhead := ⟨(lw_use_in (u3 (List.mem_of_getElem? (i := 206) rfl)) rfl), (lw_use_in (u0 (List.mem_of_getElem? (i := 31) rfl)) rfl)⟩
def mX9_readyTasks : mM := (yX9_readyTasks, cX9_readyTasks, 3, some FieldType.int)
theorem qX9_readyTasks : mMeth mX9_readyTasks 0 := ⟨(lw_use_in (u4 (List.mem_of_getElem? (i := 111) rfl)) rfl), (lw_use_in (u1 (List.mem_of_getElem? (i := 6) rfl)) rfl), ⟨by decide +kernel, by decide +kernel⟩, Nat.le_of_ble_eq_true rfl, by decide +kernel⟩
theorem vX9_readyTasks : mVirt mX9_readyTasks := ⟨(lw_use_in (u4 (List.mem_of_getElem? (i := 109) rfl)) rfl), (lw_use_in (u4 (List.mem_of_getElem? (i := 110) rfl)) rfl)⟩
def mX9_readyAtPlace : mM := (yX9_readyAtPlace, cX9_readyAtPlace, 3, some FieldType.int)
theorem qX9_readyAtPlace : mMeth mX9_readyAtPlace 1 := ⟨(lw_use_in (u4 (List.mem_of_getElem? (i := 46) rfl)) rfl), (lw_use_in (u1 (List.mem_of_getElem? (i := 6) rfl)) rfl), ⟨by decide +kernel, by decide +kernel⟩, Nat.le_of_ble_eq_true rfl, by decide +kernel⟩
theorem vX9_readyAtPlace : mVirt mX9_readyAtPlace := ⟨(lw_use_in (u4 (List.mem_of_getElem? (i := 44) rfl)) rfl), (lw_use_in (u4 (List.mem_of_getElem? (i := 45) rfl)) rfl)⟩
def mX9_readyAhead : mM := (yX9_readyAhead, cX9_readyAhead, 6, some FieldType.int)
theorem qX9_readyAhead : mMeth mX9_readyAhead 1 := ⟨(lw_use_in (u4 (List.mem_of_getElem? (i := 54) rfl)) rfl), (lw_use_in (u1 (List.mem_of_getElem? (i := 6) rfl)) rfl), ⟨by decide +kernel, by decide +kernel⟩, Nat.le_of_ble_eq_true rfl, by decide +kernel⟩
theorem vX9_readyAhead : mVirt mX9_readyAhead := ⟨(lw_use_in (u4 (List.mem_of_getElem? (i := 53) rfl)) rfl), (lw_use_in (u0 (List.mem_of_getElem? (i := 35) rfl)) rfl)⟩
def mX9_ownFault : mM := (yX9_ownFault, cX9_ownFault, 3, some FieldType.int)
theorem qX9_ownFault : mMeth mX9_ownFault 1 := ⟨(lw_use_in (u3 (List.mem_of_getElem? (i := 54) rfl)) rfl), (lw_use_in (u1 (List.mem_of_getElem? (i := 6) rfl)) rfl), ⟨by decide +kernel, by decide +kernel⟩, Nat.le_of_ble_eq_true rfl, by decide +kernel⟩
theorem vX9_ownFault : mVirt mX9_ownFault := ⟨(lw_use_in (u3 (List.mem_of_getElem? (i := 53) rfl)) rfl), (lw_use_in (u0 (List.mem_of_getElem? (i := 18) rfl)) rfl)⟩
def mX9_faultCount : mM := (yX9_faultCount, cX9_faultCount, 2, some FieldType.int)
theorem qX9_faultCount : mMeth mX9_faultCount 1 := ⟨(lw_use_in (u3 (List.mem_of_getElem? (i := 45) rfl)) rfl), (lw_use_in (u1 (List.mem_of_getElem? (i := 6) rfl)) rfl), ⟨by decide +kernel, by decide +kernel⟩, Nat.le_of_ble_eq_true rfl, by decide +kernel⟩
theorem vX9_faultCount : mVirt mX9_faultCount := ⟨(lw_use_in (u3 (List.mem_of_getElem? (i := 43) rfl)) rfl), (lw_use_in (u3 (List.mem_of_getElem? (i := 44) rfl)) rfl)⟩
def mX9_faultNumber : mM := (yX9_faultNumber, cX9_faultNumber, 4, some FieldType.int)
theorem qX9_faultNumber : mMeth mX9_faultNumber 2 := ⟨(lw_use_in (u4 (List.mem_of_getElem? (i := 21) rfl)) rfl), (lw_use_in (u1 (List.mem_of_getElem? (i := 6) rfl)) rfl), ⟨by decide +kernel, by decide +kernel⟩, Nat.le_of_ble_eq_true rfl, by decide +kernel⟩
theorem vX9_faultNumber : mVirt mX9_faultNumber := ⟨(lw_use_in (u4 (List.mem_of_getElem? (i := 19) rfl)) rfl), (lw_use_in (u4 (List.mem_of_getElem? (i := 20) rfl)) rfl)⟩
def mX9_faultThing : mM := (yX9_faultThing, cX9_faultThing, 5, some FieldType.int)
theorem qX9_faultThing : mMeth mX9_faultThing 2 := ⟨(lw_use_in (u4 (List.mem_of_getElem? (i := 29) rfl)) rfl), (lw_use_in (u1 (List.mem_of_getElem? (i := 6) rfl)) rfl), ⟨by decide +kernel, by decide +kernel⟩, Nat.le_of_ble_eq_true rfl, by decide +kernel⟩
theorem vX9_faultThing : mVirt mX9_faultThing := ⟨(lw_use_in (u4 (List.mem_of_getElem? (i := 27) rfl)) rfl), (lw_use_in (u4 (List.mem_of_getElem? (i := 28) rfl)) rfl)⟩
def mX10_init : mM := (yX10_init, cX10_init, 2, none)
theorem qX10_init : mMeth mX10_init 0 := ⟨(lw_use_in (u1 (List.mem_of_getElem? (i := 27) rfl)) rfl), (lw_use_in (u1 (List.mem_of_getElem? (i := 1) rfl)) rfl), ⟨by decide +kernel, by decide +kernel⟩, Nat.le_of_ble_eq_true rfl, by decide +kernel⟩
theorem iX10_init : Cond.instanceMethod yX10_init ∈ lw_use := (lw_use_in (u1 (List.mem_of_getElem? (i := 26) rfl)) rfl)
def mX10_feed : mM := (yX10_feed, cX10_feed, 2, some FieldType.int)
theorem qX10_feed : mMeth mX10_feed 1 := ⟨(lw_use_in (u4 (List.mem_of_getElem? (i := 181) rfl)) rfl), (lw_use_in (u1 (List.mem_of_getElem? (i := 1) rfl)) rfl), ⟨by decide +kernel, by decide +kernel⟩, Nat.le_of_ble_eq_true rfl, by decide +kernel⟩
theorem vX10_feed : mVirt mX10_feed := ⟨(lw_use_in (u4 (List.mem_of_getElem? (i := 179) rfl)) rfl), (lw_use_in (u4 (List.mem_of_getElem? (i := 180) rfl)) rfl)⟩
def mX10_clear : mM := (yX10_clear, cX10_clear, 2, some FieldType.int)
theorem qX10_clear : mMeth mX10_clear 0 := ⟨(lw_use_in (u2 (List.mem_of_getElem? (i := 101) rfl)) rfl), (lw_use_in (u1 (List.mem_of_getElem? (i := 1) rfl)) rfl), ⟨by decide +kernel, by decide +kernel⟩, Nat.le_of_ble_eq_true rfl, by decide +kernel⟩
theorem vX10_clear : mVirt mX10_clear := ⟨(lw_use_in (u2 (List.mem_of_getElem? (i := 99) rfl)) rfl), (lw_use_in (u2 (List.mem_of_getElem? (i := 100) rfl)) rfl)⟩
def mX10_open : mM := (yX10_open, cX10_open, 3, some FieldType.int)
theorem qX10_open : mMeth mX10_open 1 := ⟨(lw_use_in (u2 (List.mem_of_getElem? (i := 105) rfl)) rfl), (lw_use_in (u1 (List.mem_of_getElem? (i := 1) rfl)) rfl), ⟨by decide +kernel, by decide +kernel⟩, Nat.le_of_ble_eq_true rfl, by decide +kernel⟩
theorem vX10_open : mVirt mX10_open := ⟨(lw_use_in (u2 (List.mem_of_getElem? (i := 103) rfl)) rfl), (lw_use_in (u2 (List.mem_of_getElem? (i := 104) rfl)) rfl)⟩
def mX10_take : mM := (yX10_take, cX10_take, 4, some FieldType.int)
theorem qX10_take : mMeth mX10_take 1 := ⟨(lw_use_in (u2 (List.mem_of_getElem? (i := 122) rfl)) rfl), (lw_use_in (u1 (List.mem_of_getElem? (i := 1) rfl)) rfl), ⟨by decide +kernel, by decide +kernel⟩, Nat.le_of_ble_eq_true rfl, by decide +kernel⟩
theorem vX10_take : mVirt mX10_take := ⟨(lw_use_in (u2 (List.mem_of_getElem? (i := 120) rfl)) rfl), (lw_use_in (u2 (List.mem_of_getElem? (i := 121) rfl)) rfl)⟩
def mX10_close : mM := (yX10_close, cX10_close, 3, some FieldType.int)
theorem qX10_close : mMeth mX10_close 1 := ⟨(lw_use_in (u2 (List.mem_of_getElem? (i := 236) rfl)) rfl), (lw_use_in (u1 (List.mem_of_getElem? (i := 1) rfl)) rfl), ⟨by decide +kernel, by decide +kernel⟩, Nat.le_of_ble_eq_true rfl, by decide +kernel⟩
theorem vX10_close : mVirt mX10_close := ⟨(lw_use_in (u2 (List.mem_of_getElem? (i := 234) rfl)) rfl), (lw_use_in (u2 (List.mem_of_getElem? (i := 235) rfl)) rfl)⟩
def mX10_shut : mM := (yX10_shut, cX10_shut, 3, some FieldType.int)
theorem qX10_shut : mMeth mX10_shut 1 := ⟨(lw_use_in (u3 (List.mem_of_getElem? (i := 136) rfl)) rfl), (lw_use_in (u1 (List.mem_of_getElem? (i := 1) rfl)) rfl), ⟨by decide +kernel, by decide +kernel⟩, Nat.le_of_ble_eq_true rfl, by decide +kernel⟩
theorem vX10_shut : mVirt mX10_shut := ⟨(lw_use_in (u3 (List.mem_of_getElem? (i := 134) rfl)) rfl), (lw_use_in (u3 (List.mem_of_getElem? (i := 135) rfl)) rfl)⟩
def mX10_move : mM := (yX10_move, cX10_move, 5, some FieldType.int)
theorem qX10_move : mMeth mX10_move 2 := ⟨(lw_use_in (u3 (List.mem_of_getElem? (i := 140) rfl)) rfl), (lw_use_in (u1 (List.mem_of_getElem? (i := 1) rfl)) rfl), ⟨by decide +kernel, by decide +kernel⟩, Nat.le_of_ble_eq_true rfl, by decide +kernel⟩
theorem vX10_move : mVirt mX10_move := ⟨(lw_use_in (u3 (List.mem_of_getElem? (i := 138) rfl)) rfl), (lw_use_in (u3 (List.mem_of_getElem? (i := 139) rfl)) rfl)⟩
def mX10_counter : mM := (yX10_counter, cX10_counter, 2, some FieldType.long)
theorem qX10_counter : mMeth mX10_counter 1 := ⟨(lw_use_in (u5 (List.mem_of_getElem? (i := 156) rfl)) rfl), (lw_use_in (u1 (List.mem_of_getElem? (i := 1) rfl)) rfl), ⟨by decide +kernel, by decide +kernel⟩, Nat.le_of_ble_eq_true rfl, by decide +kernel⟩
theorem vX10_counter : mVirt mX10_counter := ⟨(lw_use_in (u5 (List.mem_of_getElem? (i := 154) rfl)) rfl), (lw_use_in (u5 (List.mem_of_getElem? (i := 155) rfl)) rfl)⟩
def mX10_scope : mM := (yX10_scope, cX10_scope, 4, some FieldType.int)
theorem qX10_scope : mMeth mX10_scope 2 := ⟨(lw_use_in (u3 (List.mem_of_getElem? (i := 149) rfl)) rfl), (lw_use_in (u1 (List.mem_of_getElem? (i := 1) rfl)) rfl), ⟨by decide +kernel, by decide +kernel⟩, Nat.le_of_ble_eq_true rfl, by decide +kernel⟩
theorem vX10_scope : mVirt mX10_scope := ⟨(lw_use_in (u3 (List.mem_of_getElem? (i := 147) rfl)) rfl), (lw_use_in (u3 (List.mem_of_getElem? (i := 148) rfl)) rfl)⟩
def mX10_below : mM := (yX10_below, cX10_below, 3, some FieldType.int)
theorem qX10_below : mMeth mX10_below 2 := ⟨(lw_use_in (u3 (List.mem_of_getElem? (i := 165) rfl)) rfl), (lw_use_in (u1 (List.mem_of_getElem? (i := 1) rfl)) rfl), ⟨by decide +kernel, by decide +kernel⟩, Nat.le_of_ble_eq_true rfl, by decide +kernel⟩
theorem vX10_below : mVirt mX10_below := ⟨(lw_use_in (u3 (List.mem_of_getElem? (i := 163) rfl)) rfl), (lw_use_in (u3 (List.mem_of_getElem? (i := 164) rfl)) rfl)⟩
def mX10_youngest : mM := (yX10_youngest, cX10_youngest, 2, some FieldType.int)
theorem qX10_youngest : mMeth mX10_youngest 1 := ⟨(lw_use_in (u3 (List.mem_of_getElem? (i := 170) rfl)) rfl), (lw_use_in (u1 (List.mem_of_getElem? (i := 1) rfl)) rfl), ⟨by decide +kernel, by decide +kernel⟩, Nat.le_of_ble_eq_true rfl, by decide +kernel⟩
theorem vX10_youngest : mVirt mX10_youngest := ⟨(lw_use_in (u3 (List.mem_of_getElem? (i := 168) rfl)) rfl), (lw_use_in (u3 (List.mem_of_getElem? (i := 169) rfl)) rfl)⟩
def mX10_thing : mM := (yX10_thing, cX10_thing, 4, some FieldType.int)
theorem qX10_thing : mMeth mX10_thing 2 := ⟨(lw_use_in (u3 (List.mem_of_getElem? (i := 178) rfl)) rfl), (lw_use_in (u1 (List.mem_of_getElem? (i := 1) rfl)) rfl), ⟨by decide +kernel, by decide +kernel⟩, Nat.le_of_ble_eq_true rfl, by decide +kernel⟩
theorem vX10_thing : mVirt mX10_thing := ⟨(lw_use_in (u3 (List.mem_of_getElem? (i := 176) rfl)) rfl), (lw_use_in (u3 (List.mem_of_getElem? (i := 177) rfl)) rfl)⟩
def mX10_name : mM := (yX10_name, cX10_name, 5, some FieldType.int)
theorem qX10_name : mMeth mX10_name 2 := ⟨(lw_use_in (u3 (List.mem_of_getElem? (i := 185) rfl)) rfl), (lw_use_in (u1 (List.mem_of_getElem? (i := 1) rfl)) rfl), ⟨by decide +kernel, by decide +kernel⟩, Nat.le_of_ble_eq_true rfl, by decide +kernel⟩
theorem vX10_name : mVirt mX10_name := ⟨(lw_use_in (u3 (List.mem_of_getElem? (i := 183) rfl)) rfl), (lw_use_in (u3 (List.mem_of_getElem? (i := 184) rfl)) rfl)⟩
def mX10_byName : mM := (yX10_byName, cX10_byName, 2, some FieldType.int)
theorem qX10_byName : mMeth mX10_byName 1 := ⟨(lw_use_in (u3 (List.mem_of_getElem? (i := 195) rfl)) rfl), (lw_use_in (u1 (List.mem_of_getElem? (i := 1) rfl)) rfl), ⟨by decide +kernel, by decide +kernel⟩, Nat.le_of_ble_eq_true rfl, by decide +kernel⟩
theorem vX10_byName : mVirt mX10_byName := ⟨(lw_use_in (u3 (List.mem_of_getElem? (i := 193) rfl)) rfl), (lw_use_in (u3 (List.mem_of_getElem? (i := 194) rfl)) rfl)⟩
def mX10_plan : mM := (yX10_plan, cX10_plan, 3, some FieldType.int)
theorem qX10_plan : mMeth mX10_plan 2 := ⟨(lw_use_in (u3 (List.mem_of_getElem? (i := 211) rfl)) rfl), (lw_use_in (u1 (List.mem_of_getElem? (i := 1) rfl)) rfl), ⟨by decide +kernel, by decide +kernel⟩, Nat.le_of_ble_eq_true rfl, by decide +kernel⟩
theorem vX10_plan : mVirt mX10_plan := ⟨(lw_use_in (u3 (List.mem_of_getElem? (i := 209) rfl)) rfl), (lw_use_in (u3 (List.mem_of_getElem? (i := 210) rfl)) rfl)⟩
def mX10_would : mM := (yX10_would, cX10_would, 7, some FieldType.int)
theorem qX10_would : mMeth mX10_would 2 := ⟨(lw_use_in (u3 (List.mem_of_getElem? (i := 224) rfl)) rfl), (lw_use_in (u1 (List.mem_of_getElem? (i := 1) rfl)) rfl), ⟨by decide +kernel, by decide +kernel⟩, Nat.le_of_ble_eq_true rfl, by decide +kernel⟩
theorem vX10_would : mVirt mX10_would := ⟨(lw_use_in (u3 (List.mem_of_getElem? (i := 222) rfl)) rfl), (lw_use_in (u3 (List.mem_of_getElem? (i := 223) rfl)) rfl)⟩
def mX10_trial : mM := (yX10_trial, cX10_trial, 7, some FieldType.int)
theorem qX10_trial : mMeth mX10_trial 3 := ⟨(lw_use_in (u4 (List.mem_of_getElem? (i := 33) rfl)) rfl), (lw_use_in (u1 (List.mem_of_getElem? (i := 1) rfl)) rfl), ⟨by decide +kernel, by decide +kernel⟩, Nat.le_of_ble_eq_true rfl, by decide +kernel⟩
theorem vX10_trial : mVirt mX10_trial := ⟨(lw_use_in (u4 (List.mem_of_getElem? (i := 31) rfl)) rfl), (lw_use_in (u4 (List.mem_of_getElem? (i := 32) rfl)) rfl)⟩
def mX10_log : mM := (yX10_log, cX10_log, 2, some FieldType.int)
theorem qX10_log : mMeth mX10_log 1 := ⟨(lw_use_in (u4 (List.mem_of_getElem? (i := 63) rfl)) rfl), (lw_use_in (u1 (List.mem_of_getElem? (i := 1) rfl)) rfl), ⟨by decide +kernel, by decide +kernel⟩, Nat.le_of_ble_eq_true rfl, by decide +kernel⟩
theorem vX10_log : mVirt mX10_log := ⟨(lw_use_in (u4 (List.mem_of_getElem? (i := 61) rfl)) rfl), (lw_use_in (u4 (List.mem_of_getElem? (i := 62) rfl)) rfl)⟩
def mX10_task : mM := (yX10_task, cX10_task, 5, some FieldType.int)
theorem qX10_task : mMeth mX10_task 2 := ⟨(lw_use_in (u4 (List.mem_of_getElem? (i := 69) rfl)) rfl), (lw_use_in (u1 (List.mem_of_getElem? (i := 1) rfl)) rfl), ⟨by decide +kernel, by decide +kernel⟩, Nat.le_of_ble_eq_true rfl, by decide +kernel⟩
theorem vX10_task : mVirt mX10_task := ⟨(lw_use_in (u4 (List.mem_of_getElem? (i := 67) rfl)) rfl), (lw_use_in (u4 (List.mem_of_getElem? (i := 68) rfl)) rfl)⟩
def mX10_tick : mM := (yX10_tick, cX10_tick, 1, some FieldType.int)
theorem qX10_tick : mMeth mX10_tick 0 := ⟨(lw_use_in (u4 (List.mem_of_getElem? (i := 90) rfl)) rfl), (lw_use_in (u1 (List.mem_of_getElem? (i := 1) rfl)) rfl), ⟨by decide +kernel, by decide +kernel⟩, Nat.le_of_ble_eq_true rfl, by decide +kernel⟩
theorem vX10_tick : mVirt mX10_tick := ⟨(lw_use_in (u4 (List.mem_of_getElem? (i := 88) rfl)) rfl), (lw_use_in (u4 (List.mem_of_getElem? (i := 89) rfl)) rfl)⟩
def mX10_ready : mM := (yX10_ready, cX10_ready, 2, some FieldType.int)
theorem qX10_ready : mMeth mX10_ready 1 := ⟨(lw_use_in (u4 (List.mem_of_getElem? (i := 98) rfl)) rfl), (lw_use_in (u1 (List.mem_of_getElem? (i := 1) rfl)) rfl), ⟨by decide +kernel, by decide +kernel⟩, Nat.le_of_ble_eq_true rfl, by decide +kernel⟩
theorem vX10_ready : mVirt mX10_ready := ⟨(lw_use_in (u4 (List.mem_of_getElem? (i := 96) rfl)) rfl), (lw_use_in (u4 (List.mem_of_getElem? (i := 97) rfl)) rfl)⟩
def mX10_told : mM := (yX10_told, cX10_told, 2, some FieldType.int)
theorem qX10_told : mMeth mX10_told 1 := ⟨(lw_use_in (u4 (List.mem_of_getElem? (i := 103) rfl)) rfl), (lw_use_in (u1 (List.mem_of_getElem? (i := 1) rfl)) rfl), ⟨by decide +kernel, by decide +kernel⟩, Nat.le_of_ble_eq_true rfl, by decide +kernel⟩
theorem vX10_told : mVirt mX10_told := ⟨(lw_use_in (u4 (List.mem_of_getElem? (i := 101) rfl)) rfl), (lw_use_in (u4 (List.mem_of_getElem? (i := 102) rfl)) rfl)⟩
def mX10_image : mM := (yX10_image, cX10_image, 1, some FieldType.int)
theorem qX10_image : mMeth mX10_image 0 := ⟨(lw_use_in (u4 (List.mem_of_getElem? (i := 115) rfl)) rfl), (lw_use_in (u1 (List.mem_of_getElem? (i := 1) rfl)) rfl), ⟨by decide +kernel, by decide +kernel⟩, Nat.le_of_ble_eq_true rfl, by decide +kernel⟩
theorem vX10_image : mVirt mX10_image := ⟨(lw_use_in (u4 (List.mem_of_getElem? (i := 113) rfl)) rfl), (lw_use_in (u4 (List.mem_of_getElem? (i := 114) rfl)) rfl)⟩
def mX10_undo : mM := (yX10_undo, cX10_undo, 1, some FieldType.int)
theorem qX10_undo : mMeth mX10_undo 0 := ⟨(lw_use_in (u4 (List.mem_of_getElem? (i := 121) rfl)) rfl), (lw_use_in (u1 (List.mem_of_getElem? (i := 1) rfl)) rfl), ⟨by decide +kernel, by decide +kernel⟩, Nat.le_of_ble_eq_true rfl, by decide +kernel⟩
theorem vX10_undo : mVirt mX10_undo := ⟨(lw_use_in (u4 (List.mem_of_getElem? (i := 119) rfl)) rfl), (lw_use_in (u4 (List.mem_of_getElem? (i := 120) rfl)) rfl)⟩
def mX10_thinkerOfNow : mM := (yX10_thinkerOfNow, cX10_thinkerOfNow, 1, some (FieldType.object "ScopeWarden$Runner"))
theorem qX10_thinkerOfNow : mMeth mX10_thinkerOfNow 0 := ⟨(lw_use_in (u3 (List.mem_of_getElem? (i := 228) rfl)) rfl), (lw_use_in (u1 (List.mem_of_getElem? (i := 1) rfl)) rfl), ⟨by decide +kernel, by decide +kernel⟩, Nat.le_of_ble_eq_true rfl, by decide +kernel⟩
theorem vX10_thinkerOfNow : mVirt mX10_thinkerOfNow := ⟨(lw_use_in (u3 (List.mem_of_getElem? (i := 227) rfl)) rfl), (lw_use_in (u0 (List.mem_of_getElem? (i := 33) rfl)) rfl)⟩
def mX10_mayBePriority : mM := (yX10_mayBePriority, cX10_mayBePriority, 1, some FieldType.boolean)
theorem qX10_mayBePriority : mMeth mX10_mayBePriority 1 := ⟨(lw_use_in (u4 (List.mem_of_getElem? (i := 72) rfl)) rfl), (lw_use_in (u1 (List.mem_of_getElem? (i := 1) rfl)) rfl), ⟨by decide +kernel, by decide +kernel⟩, Nat.le_of_ble_eq_true rfl, by decide +kernel⟩
theorem sX10_mayBePriority : Cond.static yX10_mayBePriority ∈ lw_use := (lw_use_in (u4 (List.mem_of_getElem? (i := 71) rfl)) rfl)
def mX10_stepsFrom : mM := (yX10_stepsFrom, cX10_stepsFrom, 3, some FieldType.int)
theorem qX10_stepsFrom : mMeth mX10_stepsFrom 1 := ⟨(lw_use_in (u3 (List.mem_of_getElem? (i := 181) rfl)) rfl), (lw_use_in (u1 (List.mem_of_getElem? (i := 1) rfl)) rfl), ⟨by decide +kernel, by decide +kernel⟩, Nat.le_of_ble_eq_true rfl, by decide +kernel⟩
theorem sX10_stepsFrom : Cond.static yX10_stepsFrom ∈ lw_use := (lw_use_in (u3 (List.mem_of_getElem? (i := 180) rfl)) rfl)
def mX10_letterOf : mM := (yX10_letterOf, cX10_letterOf, 4, some FieldType.int)
theorem qX10_letterOf : mMeth mX10_letterOf 2 := ⟨(lw_use_in (u3 (List.mem_of_getElem? (i := 191) rfl)) rfl), (lw_use_in (u1 (List.mem_of_getElem? (i := 1) rfl)) rfl), ⟨by decide +kernel, by decide +kernel⟩, Nat.le_of_ble_eq_true rfl, by decide +kernel⟩
theorem sX10_letterOf : Cond.static yX10_letterOf ∈ lw_use := (lw_use_in (u3 (List.mem_of_getElem? (i := 190) rfl)) rfl)
def mX10_lettersOf : mM := (yX10_lettersOf, cX10_lettersOf, 3, some FieldType.int)
theorem qX10_lettersOf : mMeth mX10_lettersOf 1 := ⟨(lw_use_in (u3 (List.mem_of_getElem? (i := 188) rfl)) rfl), (lw_use_in (u1 (List.mem_of_getElem? (i := 1) rfl)) rfl), ⟨by decide +kernel, by decide +kernel⟩, Nat.le_of_ble_eq_true rfl, by decide +kernel⟩
theorem sX10_lettersOf : Cond.static yX10_lettersOf ∈ lw_use := (lw_use_in (u3 (List.mem_of_getElem? (i := 187) rfl)) rfl)
def mJ5_init_d00df : mM := (yJ5_init_d00df, cJ5_init_d00df, 2, none)
theorem qJ5_init_d00df : mMeth mJ5_init_d00df 1 := ⟨(lw_use_in (u4 (List.mem_of_getElem? (i := 193) rfl)) rfl), (lw_use_in (u1 (List.mem_of_getElem? (i := 11) rfl)) rfl), ⟨by decide +kernel, by decide +kernel⟩, Nat.le_of_ble_eq_true rfl, by decide +kernel⟩
theorem iJ5_init_d00df : Cond.instanceMethod yJ5_init_d00df ∈ lw_use := (lw_use_in (u4 (List.mem_of_getElem? (i := 192) rfl)) rfl)
def mJ5_length_8abf5 : mM := (yJ5_length_8abf5, cJ5_length_8abf5, 1, some FieldType.int)
theorem qJ5_length_8abf5 : mMeth mJ5_length_8abf5 0 := ⟨(lw_use_in (u5 (List.mem_of_getElem? (i := 117) rfl)) rfl), (lw_use_in (u1 (List.mem_of_getElem? (i := 11) rfl)) rfl), ⟨by decide +kernel, by decide +kernel⟩, Nat.le_of_ble_eq_true rfl, by decide +kernel⟩
def mJ5_ensureCapacityInternal_d00df : mM := (yJ5_ensureCapacityInternal_d00df, cJ5_ensureCapacityInternal_d00df, 3, none)
theorem qJ5_ensureCapacityInternal_d00df : mMeth mJ5_ensureCapacityInternal_d00df 1 := ⟨(lw_use_in (u4 (List.mem_of_getElem? (i := 232) rfl)) rfl), (lw_use_in (u1 (List.mem_of_getElem? (i := 11) rfl)) rfl), ⟨by decide +kernel, by decide +kernel⟩, Nat.le_of_ble_eq_true rfl, by decide +kernel⟩
def mJ5_newCapacity_0f7a4 : mM := (yJ5_newCapacity_0f7a4, cJ5_newCapacity_0f7a4, 6, some FieldType.int)
theorem qJ5_newCapacity_0f7a4 : mMeth mJ5_newCapacity_0f7a4 1 := ⟨(lw_use_in (u4 (List.mem_of_getElem? (i := 236) rfl)) rfl), (lw_use_in (u1 (List.mem_of_getElem? (i := 11) rfl)) rfl), ⟨by decide +kernel, by decide +kernel⟩, Nat.le_of_ble_eq_true rfl, by decide +kernel⟩
def mJ5_inflate_da8c8 : mM := (yJ5_inflate_da8c8, cJ5_inflate_da8c8, 2, none)
theorem qJ5_inflate_da8c8 : mMeth mJ5_inflate_da8c8 0 := ⟨(lw_use_in (u5 (List.mem_of_getElem? (i := 57) rfl)) rfl), (lw_use_in (u1 (List.mem_of_getElem? (i := 11) rfl)) rfl), ⟨by decide +kernel, by decide +kernel⟩, Nat.le_of_ble_eq_true rfl, by decide +kernel⟩
def mJ5_append_cf1ce : mM := (yJ5_append_cf1ce, cJ5_append_cf1ce, 3, some (FieldType.object "java/lang/AbstractStringBuilder"))
theorem qJ5_append_cf1ce : mMeth mJ5_append_cf1ce 1 := ⟨(lw_use_in (u4 (List.mem_of_getElem? (i := 224) rfl)) rfl), (lw_use_in (u1 (List.mem_of_getElem? (i := 11) rfl)) rfl), ⟨by decide +kernel, by decide +kernel⟩, Nat.le_of_ble_eq_true rfl, by decide +kernel⟩
def mJ5_appendNull_278bc : mM := (yJ5_appendNull_278bc, cJ5_appendNull_278bc, 3, some (FieldType.object "java/lang/AbstractStringBuilder"))
theorem qJ5_appendNull_278bc : mMeth mJ5_appendNull_278bc 0 := ⟨(lw_use_in (u4 (List.mem_of_getElem? (i := 228) rfl)) rfl), (lw_use_in (u1 (List.mem_of_getElem? (i := 11) rfl)) rfl), ⟨by decide +kernel, by decide +kernel⟩, Nat.le_of_ble_eq_true rfl, by decide +kernel⟩
def mJ5_append_3fe6f : mM := (yJ5_append_3fe6f, cJ5_append_3fe6f, 2, some (FieldType.object "java/lang/AbstractStringBuilder"))
theorem qJ5_append_3fe6f : mMeth mJ5_append_3fe6f 1 := ⟨(lw_use_in (u5 (List.mem_of_getElem? (i := 85) rfl)) rfl), (lw_use_in (u1 (List.mem_of_getElem? (i := 11) rfl)) rfl), ⟨by decide +kernel, by decide +kernel⟩, Nat.le_of_ble_eq_true rfl, by decide +kernel⟩
def mJ5_append_c97b9 : mM := (yJ5_append_c97b9, cJ5_append_c97b9, 4, some (FieldType.object "java/lang/AbstractStringBuilder"))
theorem qJ5_append_c97b9 : mMeth mJ5_append_c97b9 1 := ⟨(lw_use_in (u5 (List.mem_of_getElem? (i := 169) rfl)) rfl), (lw_use_in (u1 (List.mem_of_getElem? (i := 11) rfl)) rfl), ⟨by decide +kernel, by decide +kernel⟩, Nat.le_of_ble_eq_true rfl, by decide +kernel⟩
def mJ5_getValue_6d5f1 : mM := (yJ5_getValue_6d5f1, cJ5_getValue_6d5f1, 1, some (FieldType.array FieldType.byte))
theorem qJ5_getValue_6d5f1 : mMeth mJ5_getValue_6d5f1 0 := ⟨(lw_use_in (u5 (List.mem_of_getElem? (i := 109) rfl)) rfl), (lw_use_in (u1 (List.mem_of_getElem? (i := 11) rfl)) rfl), ⟨by decide +kernel, by decide +kernel⟩, Nat.le_of_ble_eq_true rfl, by decide +kernel⟩
def mJ5_isLatin1_aae02 : mM := (yJ5_isLatin1_aae02, cJ5_isLatin1_aae02, 1, some FieldType.boolean)
theorem qJ5_isLatin1_aae02 : mMeth mJ5_isLatin1_aae02 0 := ⟨(lw_use_in (u5 (List.mem_of_getElem? (i := 28) rfl)) rfl), (lw_use_in (u1 (List.mem_of_getElem? (i := 11) rfl)) rfl), ⟨by decide +kernel, by decide +kernel⟩, Nat.le_of_ble_eq_true rfl, by decide +kernel⟩
def mJ5_inflateIfNeededFor_a7421 : mM := (yJ5_inflateIfNeededFor_a7421, cJ5_inflateIfNeededFor_a7421, 2, none)
theorem qJ5_inflateIfNeededFor_a7421 : mMeth mJ5_inflateIfNeededFor_a7421 1 := ⟨(lw_use_in (u5 (List.mem_of_getElem? (i := 52) rfl)) rfl), (lw_use_in (u1 (List.mem_of_getElem? (i := 11) rfl)) rfl), ⟨by decide +kernel, by decide +kernel⟩, Nat.le_of_ble_eq_true rfl, by decide +kernel⟩
def mJ5_putStringAt_47b60 : mM := (yJ5_putStringAt_47b60, cJ5_putStringAt_47b60, 3, none)
theorem qJ5_putStringAt_47b60 : mMeth mJ5_putStringAt_47b60 2 := ⟨(lw_use_in (u5 (List.mem_of_getElem? (i := 48) rfl)) rfl), (lw_use_in (u1 (List.mem_of_getElem? (i := 11) rfl)) rfl), ⟨by decide +kernel, by decide +kernel⟩, Nat.le_of_ble_eq_true rfl, by decide +kernel⟩
def mJ6_getChars_ba4f3 : mM := (yJ6_getChars_ba4f3, cJ6_getChars_ba4f3, 7, some FieldType.int)
theorem qJ6_getChars_ba4f3 : mMeth mJ6_getChars_ba4f3 3 := ⟨(lw_use_in (u5 (List.mem_of_getElem? (i := 175) rfl)) rfl), (lw_use_in (u1 (List.mem_of_getElem? (i := 21) rfl)) rfl), ⟨by decide +kernel, by decide +kernel⟩, Nat.le_of_ble_eq_true rfl, by decide +kernel⟩
theorem sJ6_getChars_ba4f3 : Cond.static yJ6_getChars_ba4f3 ∈ lw_use := (lw_use_in (u5 (List.mem_of_getElem? (i := 174) rfl)) rfl)
def mJ6_stringSize_0f7a4 : mM := (yJ6_stringSize_0f7a4, cJ6_stringSize_0f7a4, 4, some FieldType.int)
theorem qJ6_stringSize_0f7a4 : mMeth mJ6_stringSize_0f7a4 1 := ⟨(lw_use_in (u5 (List.mem_of_getElem? (i := 172) rfl)) rfl), (lw_use_in (u1 (List.mem_of_getElem? (i := 21) rfl)) rfl), ⟨by decide +kernel, by decide +kernel⟩, Nat.le_of_ble_eq_true rfl, by decide +kernel⟩
theorem sJ6_stringSize_0f7a4 : Cond.static yJ6_stringSize_0f7a4 ∈ lw_use := (lw_use_in (u5 (List.mem_of_getElem? (i := 171) rfl)) rfl)
def mJ9_max_7cf53 : mM := (yJ9_max_7cf53, cJ9_max_7cf53, 2, some FieldType.int)
theorem qJ9_max_7cf53 : mMeth mJ9_max_7cf53 2 := ⟨(lw_use_in (u5 (List.mem_of_getElem? (i := 2) rfl)) rfl), (lw_use_in (u1 (List.mem_of_getElem? (i := 16) rfl)) rfl), ⟨by decide +kernel, by decide +kernel⟩, Nat.le_of_ble_eq_true rfl, by decide +kernel⟩
theorem sJ9_max_7cf53 : Cond.static yJ9_max_7cf53 ∈ lw_use := (lw_use_in (u5 (List.mem_of_getElem? (i := 1) rfl)) rfl)
def mJ9_min_7cf53 : mM := (yJ9_min_7cf53, cJ9_min_7cf53, 2, some FieldType.int)
theorem qJ9_min_7cf53 : mMeth mJ9_min_7cf53 2 := ⟨(lw_use_in (u5 (List.mem_of_getElem? (i := 20) rfl)) rfl), (lw_use_in (u1 (List.mem_of_getElem? (i := 16) rfl)) rfl), ⟨by decide +kernel, by decide +kernel⟩, Nat.le_of_ble_eq_true rfl, by decide +kernel⟩
theorem sJ9_min_7cf53 : Cond.static yJ9_min_7cf53 ∈ lw_use := (lw_use_in (u5 (List.mem_of_getElem? (i := 19) rfl)) rfl)
def mJ0_init_81219 : mM := (yJ0_init_81219, cJ0_init_81219, 2, none)
theorem qJ0_init_81219 : mMeth mJ0_init_81219 1 := ⟨(lw_use_in (u5 (List.mem_of_getElem? (i := 100) rfl)) rfl), (lw_use_in (u1 (List.mem_of_getElem? (i := 13) rfl)) rfl), ⟨by decide +kernel, by decide +kernel⟩, Nat.le_of_ble_eq_true rfl, by decide +kernel⟩
theorem iJ0_init_81219 : Cond.instanceMethod yJ0_init_81219 ∈ lw_use := (lw_use_in (u5 (List.mem_of_getElem? (i := 99) rfl)) rfl)
def mJ0_length_8abf5 : mM := (yJ0_length_8abf5, cJ0_length_8abf5, 1, some FieldType.int)
theorem qJ0_length_8abf5 : mMeth mJ0_length_8abf5 0 := ⟨(lw_use_in (u4 (List.mem_of_getElem? (i := 133) rfl)) rfl), (lw_use_in (u1 (List.mem_of_getElem? (i := 13) rfl)) rfl), ⟨by decide +kernel, by decide +kernel⟩, Nat.le_of_ble_eq_true rfl, by decide +kernel⟩
theorem vJ0_length_8abf5 : mVirt mJ0_length_8abf5 := ⟨(lw_use_in (u4 (List.mem_of_getElem? (i := 131) rfl)) rfl), (lw_use_in (u4 (List.mem_of_getElem? (i := 132) rfl)) rfl)⟩
def mJ0_charAt_5068e : mM := (yJ0_charAt_5068e, cJ0_charAt_5068e, 2, some FieldType.char)
theorem qJ0_charAt_5068e : mMeth mJ0_charAt_5068e 1 := ⟨(lw_use_in (u4 (List.mem_of_getElem? (i := 143) rfl)) rfl), (lw_use_in (u1 (List.mem_of_getElem? (i := 13) rfl)) rfl), ⟨by decide +kernel, by decide +kernel⟩, Nat.le_of_ble_eq_true rfl, by decide +kernel⟩
theorem vJ0_charAt_5068e : mVirt mJ0_charAt_5068e := ⟨(lw_use_in (u4 (List.mem_of_getElem? (i := 141) rfl)) rfl), (lw_use_in (u4 (List.mem_of_getElem? (i := 142) rfl)) rfl)⟩
def mJ0_getBytes_840e7 : mM := (yJ0_getBytes_840e7, cJ0_getBytes_840e7, 4, none)
theorem qJ0_getBytes_840e7 : mMeth mJ0_getBytes_840e7 3 := ⟨(lw_use_in (u5 (List.mem_of_getElem? (i := 76) rfl)) rfl), (lw_use_in (u1 (List.mem_of_getElem? (i := 13) rfl)) rfl), ⟨by decide +kernel, by decide +kernel⟩, Nat.le_of_ble_eq_true rfl, by decide +kernel⟩
theorem vJ0_getBytes_840e7 : mVirt mJ0_getBytes_840e7 := ⟨(lw_use_in (u5 (List.mem_of_getElem? (i := 74) rfl)) rfl), (lw_use_in (u5 (List.mem_of_getElem? (i := 75) rfl)) rfl)⟩
def mJ0_init_db425 : mM := (yJ0_init_db425, cJ0_init_db425, 5, none)
theorem qJ0_init_db425 : mMeth mJ0_init_db425 2 := ⟨(lw_use_in (u5 (List.mem_of_getElem? (i := 103) rfl)) rfl), (lw_use_in (u1 (List.mem_of_getElem? (i := 13) rfl)) rfl), ⟨by decide +kernel, by decide +kernel⟩, Nat.le_of_ble_eq_true rfl, by decide +kernel⟩
theorem iJ0_init_db425 : Cond.instanceMethod yJ0_init_db425 ∈ lw_use := (lw_use_in (u5 (List.mem_of_getElem? (i := 102) rfl)) rfl)
def mJ0_coder_7d493 : mM := (yJ0_coder_7d493, cJ0_coder_7d493, 1, some FieldType.byte)
theorem qJ0_coder_7d493 : mMeth mJ0_coder_7d493 0 := ⟨(lw_use_in (u4 (List.mem_of_getElem? (i := 137) rfl)) rfl), (lw_use_in (u1 (List.mem_of_getElem? (i := 13) rfl)) rfl), ⟨by decide +kernel, by decide +kernel⟩, Nat.le_of_ble_eq_true rfl, by decide +kernel⟩
theorem vJ0_coder_7d493 : mVirt mJ0_coder_7d493 := ⟨(lw_use_in (u4 (List.mem_of_getElem? (i := 135) rfl)) rfl), (lw_use_in (u4 (List.mem_of_getElem? (i := 136) rfl)) rfl)⟩
def mJ0_isLatin1_aae02 : mM := (yJ0_isLatin1_aae02, cJ0_isLatin1_aae02, 1, some FieldType.boolean)
theorem qJ0_isLatin1_aae02 : mMeth mJ0_isLatin1_aae02 0 := ⟨(lw_use_in (u4 (List.mem_of_getElem? (i := 147) rfl)) rfl), (lw_use_in (u1 (List.mem_of_getElem? (i := 13) rfl)) rfl), ⟨by decide +kernel, by decide +kernel⟩, Nat.le_of_ble_eq_true rfl, by decide +kernel⟩
theorem vJ0_isLatin1_aae02 : mVirt mJ0_isLatin1_aae02 := ⟨(lw_use_in (u4 (List.mem_of_getElem? (i := 145) rfl)) rfl), (lw_use_in (u4 (List.mem_of_getElem? (i := 146) rfl)) rfl)⟩
def mJ0_checkIndex_df160 : mM := (yJ0_checkIndex_df160, cJ0_checkIndex_df160, 2, none)
theorem qJ0_checkIndex_df160 : mMeth mJ0_checkIndex_df160 2 := ⟨(lw_use_in (u4 (List.mem_of_getElem? (i := 153) rfl)) rfl), (lw_use_in (u1 (List.mem_of_getElem? (i := 13) rfl)) rfl), ⟨by decide +kernel, by decide +kernel⟩, Nat.le_of_ble_eq_true rfl, by decide +kernel⟩
theorem sJ0_checkIndex_df160 : Cond.static yJ0_checkIndex_df160 ∈ lw_use := (lw_use_in (u4 (List.mem_of_getElem? (i := 152) rfl)) rfl)
def mJ0_checkBoundsOffCount_cabcc : mM := (yJ0_checkBoundsOffCount_cabcc, cJ0_checkBoundsOffCount_cabcc, 3, some FieldType.int)
theorem qJ0_checkBoundsOffCount_cabcc : mMeth mJ0_checkBoundsOffCount_cabcc 3 := ⟨(lw_use_in (u5 (List.mem_of_getElem? (i := 69) rfl)) rfl), (lw_use_in (u1 (List.mem_of_getElem? (i := 13) rfl)) rfl), ⟨by decide +kernel, by decide +kernel⟩, Nat.le_of_ble_eq_true rfl, by decide +kernel⟩
theorem sJ0_checkBoundsOffCount_cabcc : Cond.static yJ0_checkBoundsOffCount_cabcc ∈ lw_use := (lw_use_in (u5 (List.mem_of_getElem? (i := 68) rfl)) rfl)
def mJ0_checkBoundsBeginEnd_23922 : mM := (yJ0_checkBoundsBeginEnd_23922, cJ0_checkBoundsBeginEnd_23922, 3, none)
theorem qJ0_checkBoundsBeginEnd_23922 : mMeth mJ0_checkBoundsBeginEnd_23922 3 := ⟨(lw_use_in (u5 (List.mem_of_getElem? (i := 37) rfl)) rfl), (lw_use_in (u1 (List.mem_of_getElem? (i := 13) rfl)) rfl), ⟨by decide +kernel, by decide +kernel⟩, Nat.le_of_ble_eq_true rfl, by decide +kernel⟩
theorem sJ0_checkBoundsBeginEnd_23922 : Cond.static yJ0_checkBoundsBeginEnd_23922 ∈ lw_use := (lw_use_in (u5 (List.mem_of_getElem? (i := 36) rfl)) rfl)
def mJ4_init_da8c8 : mM := (yJ4_init_da8c8, cJ4_init_da8c8, 1, none)
theorem qJ4_init_da8c8 : mMeth mJ4_init_da8c8 0 := ⟨(lw_use_in (u4 (List.mem_of_getElem? (i := 190) rfl)) rfl), (lw_use_in (u1 (List.mem_of_getElem? (i := 12) rfl)) rfl), ⟨by decide +kernel, by decide +kernel⟩, Nat.le_of_ble_eq_true rfl, by decide +kernel⟩
theorem iJ4_init_da8c8 : Cond.instanceMethod yJ4_init_da8c8 ∈ lw_use := (lw_use_in (u4 (List.mem_of_getElem? (i := 189) rfl)) rfl)
def mJ4_append_15ec4 : mM := (yJ4_append_15ec4, cJ4_append_15ec4, 2, some (FieldType.object "java/lang/StringBuilder"))
theorem qJ4_append_15ec4 : mMeth mJ4_append_15ec4 1 := ⟨(lw_use_in (u4 (List.mem_of_getElem? (i := 221) rfl)) rfl), (lw_use_in (u1 (List.mem_of_getElem? (i := 12) rfl)) rfl), ⟨by decide +kernel, by decide +kernel⟩, Nat.le_of_ble_eq_true rfl, by decide +kernel⟩
theorem vJ4_append_15ec4 : mVirt mJ4_append_15ec4 := ⟨(lw_use_in (u4 (List.mem_of_getElem? (i := 219) rfl)) rfl), (lw_use_in (u4 (List.mem_of_getElem? (i := 220) rfl)) rfl)⟩
def mJ4_append_cf468 : mM := (yJ4_append_cf468, cJ4_append_cf468, 2, some (FieldType.object "java/lang/StringBuilder"))
theorem qJ4_append_cf468 : mMeth mJ4_append_cf468 1 := ⟨(lw_use_in (u5 (List.mem_of_getElem? (i := 82) rfl)) rfl), (lw_use_in (u1 (List.mem_of_getElem? (i := 12) rfl)) rfl), ⟨by decide +kernel, by decide +kernel⟩, Nat.le_of_ble_eq_true rfl, by decide +kernel⟩
theorem vJ4_append_cf468 : mVirt mJ4_append_cf468 := ⟨(lw_use_in (u5 (List.mem_of_getElem? (i := 80) rfl)) rfl), (lw_use_in (u5 (List.mem_of_getElem? (i := 81) rfl)) rfl)⟩
def mJ4_append_bf812 : mM := (yJ4_append_bf812, cJ4_append_bf812, 2, some (FieldType.object "java/lang/StringBuilder"))
theorem qJ4_append_bf812 : mMeth mJ4_append_bf812 1 := ⟨(lw_use_in (u5 (List.mem_of_getElem? (i := 166) rfl)) rfl), (lw_use_in (u1 (List.mem_of_getElem? (i := 12) rfl)) rfl), ⟨by decide +kernel, by decide +kernel⟩, Nat.le_of_ble_eq_true rfl, by decide +kernel⟩
theorem vJ4_append_bf812 : mVirt mJ4_append_bf812 := ⟨(lw_use_in (u5 (List.mem_of_getElem? (i := 164) rfl)) rfl), (lw_use_in (u5 (List.mem_of_getElem? (i := 165) rfl)) rfl)⟩
def mJ4_toString_0e30d : mM := (yJ4_toString_0e30d, cJ4_toString_0e30d, 1, some (FieldType.object "java/lang/String"))
theorem qJ4_toString_0e30d : mMeth mJ4_toString_0e30d 0 := ⟨(lw_use_in (u5 (List.mem_of_getElem? (i := 95) rfl)) rfl), (lw_use_in (u1 (List.mem_of_getElem? (i := 12) rfl)) rfl), ⟨by decide +kernel, by decide +kernel⟩, Nat.le_of_ble_eq_true rfl, by decide +kernel⟩
theorem vJ4_toString_0e30d : mVirt mJ4_toString_0e30d := ⟨(lw_use_in (u5 (List.mem_of_getElem? (i := 93) rfl)) rfl), (lw_use_in (u5 (List.mem_of_getElem? (i := 94) rfl)) rfl)⟩
def mJ4_length_8abf5 : mM := (yJ4_length_8abf5, cJ4_length_8abf5, 1, some FieldType.int)
theorem qJ4_length_8abf5 : mMeth mJ4_length_8abf5 0 := ⟨(lw_use_in (u5 (List.mem_of_getElem? (i := 115) rfl)) rfl), (lw_use_in (u1 (List.mem_of_getElem? (i := 12) rfl)) rfl), ⟨by decide +kernel, by decide +kernel⟩, Nat.le_of_ble_eq_true rfl, by decide +kernel⟩
def mJ1_charAt_3b067 : mM := (yJ1_charAt_3b067, cJ1_charAt_3b067, 2, some FieldType.char)
theorem qJ1_charAt_3b067 : mMeth mJ1_charAt_3b067 2 := ⟨(lw_use_in (u4 (List.mem_of_getElem? (i := 150) rfl)) rfl), (lw_use_in (u1 (List.mem_of_getElem? (i := 20) rfl)) rfl), ⟨by decide +kernel, by decide +kernel⟩, Nat.le_of_ble_eq_true rfl, by decide +kernel⟩
theorem sJ1_charAt_3b067 : Cond.static yJ1_charAt_3b067 ∈ lw_use := (lw_use_in (u4 (List.mem_of_getElem? (i := 149) rfl)) rfl)
def mJ1_canEncode_fc78d : mM := (yJ1_canEncode_fc78d, cJ1_canEncode_fc78d, 1, some FieldType.boolean)
theorem qJ1_canEncode_fc78d : mMeth mJ1_canEncode_fc78d 1 := ⟨(lw_use_in (u5 (List.mem_of_getElem? (i := 88) rfl)) rfl), (lw_use_in (u1 (List.mem_of_getElem? (i := 20) rfl)) rfl), ⟨by decide +kernel, by decide +kernel⟩, Nat.le_of_ble_eq_true rfl, by decide +kernel⟩
theorem sJ1_canEncode_fc78d : Cond.static yJ1_canEncode_fc78d ∈ lw_use := (lw_use_in (u5 (List.mem_of_getElem? (i := 87) rfl)) rfl)
def mJ1_inflate_0e8fd : mM := (yJ1_inflate_0e8fd, cJ1_inflate_0e8fd, 5, none)
theorem qJ1_inflate_0e8fd : mMeth mJ1_inflate_0e8fd 5 := ⟨(lw_use_in (u5 (List.mem_of_getElem? (i := 60) rfl)) rfl), (lw_use_in (u1 (List.mem_of_getElem? (i := 20) rfl)) rfl), ⟨by decide +kernel, by decide +kernel⟩, Nat.le_of_ble_eq_true rfl, by decide +kernel⟩
theorem sJ1_inflate_0e8fd : Cond.static yJ1_inflate_0e8fd ∈ lw_use := (lw_use_in (u5 (List.mem_of_getElem? (i := 59) rfl)) rfl)
def mJ2_newBytesFor_77867 : mM := (yJ2_newBytesFor_77867, cJ2_newBytesFor_77867, 1, some (FieldType.array FieldType.byte))
theorem qJ2_newBytesFor_77867 : mMeth mJ2_newBytesFor_77867 1 := ⟨(lw_use_in (u4 (List.mem_of_getElem? (i := 198) rfl)) rfl), (lw_use_in (u1 (List.mem_of_getElem? (i := 14) rfl)) rfl), ⟨by decide +kernel, by decide +kernel⟩, Nat.le_of_ble_eq_true rfl, by decide +kernel⟩
theorem sJ2_newBytesFor_77867 : Cond.static yJ2_newBytesFor_77867 ∈ lw_use := (lw_use_in (u4 (List.mem_of_getElem? (i := 197) rfl)) rfl)
def mJ2_newBytesLength_0f7a4 : mM := (yJ2_newBytesLength_0f7a4, cJ2_newBytesLength_0f7a4, 1, some FieldType.int)
theorem qJ2_newBytesLength_0f7a4 : mMeth mJ2_newBytesLength_0f7a4 1 := ⟨(lw_use_in (u4 (List.mem_of_getElem? (i := 201) rfl)) rfl), (lw_use_in (u1 (List.mem_of_getElem? (i := 14) rfl)) rfl), ⟨by decide +kernel, by decide +kernel⟩, Nat.le_of_ble_eq_true rfl, by decide +kernel⟩
theorem sJ2_newBytesLength_0f7a4 : Cond.static yJ2_newBytesLength_0f7a4 ∈ lw_use := (lw_use_in (u4 (List.mem_of_getElem? (i := 200) rfl)) rfl)
def mJ2_putChar_b72d1 : mM := (yJ2_putChar_b72d1, cJ2_putChar_b72d1, 3, none)
theorem qJ2_putChar_b72d1 : mMeth mJ2_putChar_b72d1 3 := ⟨(lw_use_in (u5 (List.mem_of_getElem? (i := 43) rfl)) rfl), (lw_use_in (u1 (List.mem_of_getElem? (i := 14) rfl)) rfl), ⟨by decide +kernel, by decide +kernel⟩, Nat.le_of_ble_eq_true rfl, by decide +kernel⟩
theorem sJ2_putChar_b72d1 : Cond.static yJ2_putChar_b72d1 ∈ lw_use := (lw_use_in (u5 (List.mem_of_getElem? (i := 42) rfl)) rfl)
def mJ2_getChar_3b067 : mM := (yJ2_getChar_3b067, cJ2_getChar_3b067, 2, some FieldType.char)
theorem qJ2_getChar_3b067 : mMeth mJ2_getChar_3b067 2 := ⟨(lw_use_in (u4 (List.mem_of_getElem? (i := 171) rfl)) rfl), (lw_use_in (u1 (List.mem_of_getElem? (i := 14) rfl)) rfl), ⟨by decide +kernel, by decide +kernel⟩, Nat.le_of_ble_eq_true rfl, by decide +kernel⟩
theorem sJ2_getChar_3b067 : Cond.static yJ2_getChar_3b067 ∈ lw_use := (lw_use_in (u4 (List.mem_of_getElem? (i := 170) rfl)) rfl)
def mJ2_length_9d52b : mM := (yJ2_length_9d52b, cJ2_length_9d52b, 1, some FieldType.int)
theorem qJ2_length_9d52b : mMeth mJ2_length_9d52b 1 := ⟨(lw_use_in (u4 (List.mem_of_getElem? (i := 167) rfl)) rfl), (lw_use_in (u1 (List.mem_of_getElem? (i := 14) rfl)) rfl), ⟨by decide +kernel, by decide +kernel⟩, Nat.le_of_ble_eq_true rfl, by decide +kernel⟩
theorem sJ2_length_9d52b : Cond.static yJ2_length_9d52b ∈ lw_use := (lw_use_in (u4 (List.mem_of_getElem? (i := 166) rfl)) rfl)
def mJ2_coderFromArrayLen_85cad : mM := (yJ2_coderFromArrayLen_85cad, cJ2_coderFromArrayLen_85cad, 2, some FieldType.byte)
theorem qJ2_coderFromArrayLen_85cad : mMeth mJ2_coderFromArrayLen_85cad 2 := ⟨(lw_use_in (u5 (List.mem_of_getElem? (i := 137) rfl)) rfl), (lw_use_in (u1 (List.mem_of_getElem? (i := 14) rfl)) rfl), ⟨by decide +kernel, by decide +kernel⟩, Nat.le_of_ble_eq_true rfl, by decide +kernel⟩
theorem sJ2_coderFromArrayLen_85cad : Cond.static yJ2_coderFromArrayLen_85cad ∈ lw_use := (lw_use_in (u5 (List.mem_of_getElem? (i := 136) rfl)) rfl)
def mJ2_compress_39247 : mM := (yJ2_compress_39247, cJ2_compress_39247, 6, some (FieldType.array FieldType.byte))
theorem qJ2_compress_39247 : mMeth mJ2_compress_39247 3 := ⟨(lw_use_in (u5 (List.mem_of_getElem? (i := 130) rfl)) rfl), (lw_use_in (u1 (List.mem_of_getElem? (i := 14) rfl)) rfl), ⟨by decide +kernel, by decide +kernel⟩, Nat.le_of_ble_eq_true rfl, by decide +kernel⟩
theorem sJ2_compress_39247 : Cond.static yJ2_compress_39247 ∈ lw_use := (lw_use_in (u5 (List.mem_of_getElem? (i := 129) rfl)) rfl)
def mJ2_compress_5af95 : mM := (yJ2_compress_5af95, cJ2_compress_5af95, 7, some FieldType.int)
theorem qJ2_compress_5af95 : mMeth mJ2_compress_5af95 5 := ⟨(lw_use_in (u5 (List.mem_of_getElem? (i := 133) rfl)) rfl), (lw_use_in (u1 (List.mem_of_getElem? (i := 14) rfl)) rfl), ⟨by decide +kernel, by decide +kernel⟩, Nat.le_of_ble_eq_true rfl, by decide +kernel⟩
theorem sJ2_compress_5af95 : Cond.static yJ2_compress_5af95 ∈ lw_use := (lw_use_in (u5 (List.mem_of_getElem? (i := 132) rfl)) rfl)
def mJ2_putCharSB_b72d1 : mM := (yJ2_putCharSB_b72d1, cJ2_putCharSB_b72d1, 3, none)
theorem qJ2_putCharSB_b72d1 : mMeth mJ2_putCharSB_b72d1 3 := ⟨(lw_use_in (u5 (List.mem_of_getElem? (i := 91) rfl)) rfl), (lw_use_in (u1 (List.mem_of_getElem? (i := 14) rfl)) rfl), ⟨by decide +kernel, by decide +kernel⟩, Nat.le_of_ble_eq_true rfl, by decide +kernel⟩
theorem sJ2_putCharSB_b72d1 : Cond.static yJ2_putCharSB_b72d1 ∈ lw_use := (lw_use_in (u5 (List.mem_of_getElem? (i := 90) rfl)) rfl)
def mJ2_getChars_46870 : mM := (yJ2_getChars_46870, cJ2_getChars_46870, 5, some FieldType.int)
theorem qJ2_getChars_46870 : mMeth mJ2_getChars_46870 4 := ⟨(lw_use_in (u5 (List.mem_of_getElem? (i := 182) rfl)) rfl), (lw_use_in (u1 (List.mem_of_getElem? (i := 14) rfl)) rfl), ⟨by decide +kernel, by decide +kernel⟩, Nat.le_of_ble_eq_true rfl, by decide +kernel⟩
theorem sJ2_getChars_46870 : Cond.static yJ2_getChars_46870 ∈ lw_use := (lw_use_in (u5 (List.mem_of_getElem? (i := 181) rfl)) rfl)
def mJ2_putCharsAt_cd4e5 : mM := (yJ2_putCharsAt_cd4e5, cJ2_putCharsAt_cd4e5, 7, some FieldType.int)
theorem qJ2_putCharsAt_cd4e5 : mMeth mJ2_putCharsAt_cd4e5 6 := ⟨(lw_use_in (u5 (List.mem_of_getElem? (i := 31) rfl)) rfl), (lw_use_in (u1 (List.mem_of_getElem? (i := 14) rfl)) rfl), ⟨by decide +kernel, by decide +kernel⟩, Nat.le_of_ble_eq_true rfl, by decide +kernel⟩
theorem sJ2_putCharsAt_cd4e5 : Cond.static yJ2_putCharsAt_cd4e5 ∈ lw_use := (lw_use_in (u5 (List.mem_of_getElem? (i := 30) rfl)) rfl)
def mJ2_charAt_3b067 : mM := (yJ2_charAt_3b067, cJ2_charAt_3b067, 2, some FieldType.char)
theorem qJ2_charAt_3b067 : mMeth mJ2_charAt_3b067 2 := ⟨(lw_use_in (u4 (List.mem_of_getElem? (i := 161) rfl)) rfl), (lw_use_in (u1 (List.mem_of_getElem? (i := 14) rfl)) rfl), ⟨by decide +kernel, by decide +kernel⟩, Nat.le_of_ble_eq_true rfl, by decide +kernel⟩
theorem sJ2_charAt_3b067 : Cond.static yJ2_charAt_3b067 ∈ lw_use := (lw_use_in (u4 (List.mem_of_getElem? (i := 160) rfl)) rfl)
def mJ2_inflate_0e8fd : mM := (yJ2_inflate_0e8fd, cJ2_inflate_0e8fd, 6, none)
theorem qJ2_inflate_0e8fd : mMeth mJ2_inflate_0e8fd 5 := ⟨(lw_use_in (u5 (List.mem_of_getElem? (i := 63) rfl)) rfl), (lw_use_in (u1 (List.mem_of_getElem? (i := 14) rfl)) rfl), ⟨by decide +kernel, by decide +kernel⟩, Nat.le_of_ble_eq_true rfl, by decide +kernel⟩
theorem sJ2_inflate_0e8fd : Cond.static yJ2_inflate_0e8fd ∈ lw_use := (lw_use_in (u5 (List.mem_of_getElem? (i := 62) rfl)) rfl)
def mJ2_getChars_ba4f3 : mM := (yJ2_getChars_ba4f3, cJ2_getChars_ba4f3, 7, some FieldType.int)
theorem qJ2_getChars_ba4f3 : mMeth mJ2_getChars_ba4f3 3 := ⟨(lw_use_in (u5 (List.mem_of_getElem? (i := 185) rfl)) rfl), (lw_use_in (u1 (List.mem_of_getElem? (i := 14) rfl)) rfl), ⟨by decide +kernel, by decide +kernel⟩, Nat.le_of_ble_eq_true rfl, by decide +kernel⟩
theorem sJ2_getChars_ba4f3 : Cond.static yJ2_getChars_ba4f3 ∈ lw_use := (lw_use_in (u5 (List.mem_of_getElem? (i := 184) rfl)) rfl)
def mJ2_checkIndex_2214a : mM := (yJ2_checkIndex_2214a, cJ2_checkIndex_2214a, 2, none)
theorem qJ2_checkIndex_2214a : mMeth mJ2_checkIndex_2214a 2 := ⟨(lw_use_in (u4 (List.mem_of_getElem? (i := 164) rfl)) rfl), (lw_use_in (u1 (List.mem_of_getElem? (i := 14) rfl)) rfl), ⟨by decide +kernel, by decide +kernel⟩, Nat.le_of_ble_eq_true rfl, by decide +kernel⟩
theorem sJ2_checkIndex_2214a : Cond.static yJ2_checkIndex_2214a ∈ lw_use := (lw_use_in (u4 (List.mem_of_getElem? (i := 163) rfl)) rfl)
def mJ2_checkBoundsBeginEnd_d044e : mM := (yJ2_checkBoundsBeginEnd_d044e, cJ2_checkBoundsBeginEnd_d044e, 3, none)
theorem qJ2_checkBoundsBeginEnd_d044e : mMeth mJ2_checkBoundsBeginEnd_d044e 3 := ⟨(lw_use_in (u5 (List.mem_of_getElem? (i := 34) rfl)) rfl), (lw_use_in (u1 (List.mem_of_getElem? (i := 14) rfl)) rfl), ⟨by decide +kernel, by decide +kernel⟩, Nat.le_of_ble_eq_true rfl, by decide +kernel⟩
theorem sJ2_checkBoundsBeginEnd_d044e : Cond.static yJ2_checkBoundsBeginEnd_d044e ∈ lw_use := (lw_use_in (u5 (List.mem_of_getElem? (i := 33) rfl)) rfl)
def mJ2_checkBoundsOffCount_d044e : mM := (yJ2_checkBoundsOffCount_d044e, cJ2_checkBoundsOffCount_d044e, 3, none)
theorem qJ2_checkBoundsOffCount_d044e : mMeth mJ2_checkBoundsOffCount_d044e 3 := ⟨(lw_use_in (u5 (List.mem_of_getElem? (i := 66) rfl)) rfl), (lw_use_in (u1 (List.mem_of_getElem? (i := 14) rfl)) rfl), ⟨by decide +kernel, by decide +kernel⟩, Nat.le_of_ble_eq_true rfl, by decide +kernel⟩
theorem sJ2_checkBoundsOffCount_d044e : Cond.static yJ2_checkBoundsOffCount_d044e ∈ lw_use := (lw_use_in (u5 (List.mem_of_getElem? (i := 65) rfl)) rfl)
def mJ7_copyOf_9075b : mM := (yJ7_copyOf_9075b, cJ7_copyOf_9075b, 3, some (FieldType.array FieldType.byte))
theorem qJ7_copyOf_9075b : mMeth mJ7_copyOf_9075b 2 := ⟨(lw_use_in (u5 (List.mem_of_getElem? (i := 10) rfl)) rfl), (lw_use_in (u1 (List.mem_of_getElem? (i := 17) rfl)) rfl), ⟨by decide +kernel, by decide +kernel⟩, Nat.le_of_ble_eq_true rfl, by decide +kernel⟩
theorem sJ7_copyOf_9075b : Cond.static yJ7_copyOf_9075b ∈ lw_use := (lw_use_in (u5 (List.mem_of_getElem? (i := 9) rfl)) rfl)
def mJ7_checkLength_df160 : mM := (yJ7_checkLength_df160, cJ7_checkLength_df160, 2, none)
theorem qJ7_checkLength_df160 : mMeth mJ7_checkLength_df160 2 := ⟨(lw_use_in (u5 (List.mem_of_getElem? (i := 127) rfl)) rfl), (lw_use_in (u1 (List.mem_of_getElem? (i := 17) rfl)) rfl), ⟨by decide +kernel, by decide +kernel⟩, Nat.le_of_ble_eq_true rfl, by decide +kernel⟩
theorem sJ7_checkLength_df160 : Cond.static yJ7_checkLength_df160 ∈ lw_use := (lw_use_in (u5 (List.mem_of_getElem? (i := 126) rfl)) rfl)
def mJ7_copyOfRange_39247 : mM := (yJ7_copyOfRange_39247, cJ7_copyOfRange_39247, 3, some (FieldType.array FieldType.byte))
theorem qJ7_copyOfRange_39247 : mMeth mJ7_copyOfRange_39247 3 := ⟨(lw_use_in (u5 (List.mem_of_getElem? (i := 121) rfl)) rfl), (lw_use_in (u1 (List.mem_of_getElem? (i := 17) rfl)) rfl), ⟨by decide +kernel, by decide +kernel⟩, Nat.le_of_ble_eq_true rfl, by decide +kernel⟩
theorem sJ7_copyOfRange_39247 : Cond.static yJ7_copyOfRange_39247 ∈ lw_use := (lw_use_in (u5 (List.mem_of_getElem? (i := 120) rfl)) rfl)
def mJ7_copyOfRangeByte_39247 : mM := (yJ7_copyOfRangeByte_39247, cJ7_copyOfRangeByte_39247, 5, some (FieldType.array FieldType.byte))
theorem qJ7_copyOfRangeByte_39247 : mMeth mJ7_copyOfRangeByte_39247 3 := ⟨(lw_use_in (u5 (List.mem_of_getElem? (i := 124) rfl)) rfl), (lw_use_in (u1 (List.mem_of_getElem? (i := 17) rfl)) rfl), ⟨by decide +kernel, by decide +kernel⟩, Nat.le_of_ble_eq_true rfl, by decide +kernel⟩
theorem sJ7_copyOfRangeByte_39247 : Cond.static yJ7_copyOfRangeByte_39247 ∈ lw_use := (lw_use_in (u5 (List.mem_of_getElem? (i := 123) rfl)) rfl)
def mJ8_newLength_cabcc : mM := (yJ8_newLength_cabcc, cJ8_newLength_cabcc, 4, some FieldType.int)
theorem qJ8_newLength_cabcc : mMeth mJ8_newLength_cabcc 3 := ⟨(lw_use_in (u4 (List.mem_of_getElem? (i := 239) rfl)) rfl), (lw_use_in (u1 (List.mem_of_getElem? (i := 15) rfl)) rfl), ⟨by decide +kernel, by decide +kernel⟩, Nat.le_of_ble_eq_true rfl, by decide +kernel⟩
theorem sJ8_newLength_cabcc : Cond.static yJ8_newLength_cabcc ∈ lw_use := (lw_use_in (u4 (List.mem_of_getElem? (i := 238) rfl)) rfl)
def mJ8_hugeLength_7cf53 : mM := (yJ8_hugeLength_7cf53, cJ8_hugeLength_7cf53, 3, some FieldType.int)
theorem qJ8_hugeLength_7cf53 : mMeth mJ8_hugeLength_7cf53 2 := ⟨(lw_use_in (u5 (List.mem_of_getElem? (i := 6) rfl)) rfl), (lw_use_in (u1 (List.mem_of_getElem? (i := 15) rfl)) rfl), ⟨by decide +kernel, by decide +kernel⟩, Nat.le_of_ble_eq_true rfl, by decide +kernel⟩
theorem sJ8_hugeLength_7cf53 : Cond.static yJ8_hugeLength_7cf53 ∈ lw_use := (lw_use_in (u5 (List.mem_of_getElem? (i := 5) rfl)) rfl)
def mJ3_checkIndex_8e157 : mM := (yJ3_checkIndex_8e157, cJ3_checkIndex_8e157, 3, some FieldType.int)
theorem qJ3_checkIndex_8e157 : mMeth mJ3_checkIndex_8e157 3 := ⟨(lw_use_in (u4 (List.mem_of_getElem? (i := 158) rfl)) rfl), (lw_use_in (u1 (List.mem_of_getElem? (i := 19) rfl)) rfl), ⟨by decide +kernel, by decide +kernel⟩, Nat.le_of_ble_eq_true rfl, by decide +kernel⟩
theorem sJ3_checkIndex_8e157 : Cond.static yJ3_checkIndex_8e157 ∈ lw_use := (lw_use_in (u4 (List.mem_of_getElem? (i := 157) rfl)) rfl)
def mJ3_checkFromToIndex_8c36e : mM := (yJ3_checkFromToIndex_8c36e, cJ3_checkFromToIndex_8c36e, 4, some FieldType.int)
theorem qJ3_checkFromToIndex_8c36e : mMeth mJ3_checkFromToIndex_8c36e 4 := ⟨(lw_use_in (u5 (List.mem_of_getElem? (i := 40) rfl)) rfl), (lw_use_in (u1 (List.mem_of_getElem? (i := 19) rfl)) rfl), ⟨by decide +kernel, by decide +kernel⟩, Nat.le_of_ble_eq_true rfl, by decide +kernel⟩
theorem sJ3_checkFromToIndex_8c36e : Cond.static yJ3_checkFromToIndex_8c36e ∈ lw_use := (lw_use_in (u5 (List.mem_of_getElem? (i := 39) rfl)) rfl)
def mJ3_checkFromIndexSize_8c36e : mM := (yJ3_checkFromIndexSize_8c36e, cJ3_checkFromIndexSize_8c36e, 4, some FieldType.int)
theorem qJ3_checkFromIndexSize_8c36e : mMeth mJ3_checkFromIndexSize_8c36e 4 := ⟨(lw_use_in (u5 (List.mem_of_getElem? (i := 72) rfl)) rfl), (lw_use_in (u1 (List.mem_of_getElem? (i := 19) rfl)) rfl), ⟨by decide +kernel, by decide +kernel⟩, Nat.le_of_ble_eq_true rfl, by decide +kernel⟩
theorem sJ3_checkFromIndexSize_8c36e : Cond.static yJ3_checkFromIndexSize_8c36e ∈ lw_use := (lw_use_in (u5 (List.mem_of_getElem? (i := 71) rfl)) rfl)
def mL_cell : mM := (yL_cell, cL_cell, 3, some FieldType.int)
theorem qL_cell : mMeth mL_cell 2 := ⟨(lw_use_in (u4 (List.mem_of_getElem? (i := 124) rfl)) rfl), (lw_use_in (u1 (List.mem_of_getElem? (i := 0) rfl)) rfl), ⟨by decide +kernel, by decide +kernel⟩, Nat.le_of_ble_eq_true rfl, by decide +kernel⟩
theorem sL_cell : Cond.static yL_cell ∈ lw_use := (lw_use_in (u4 (List.mem_of_getElem? (i := 123) rfl)) rfl)
def mL_types : mM := (yL_types, cL_types, 4, some FieldType.boolean)
theorem qL_types : mMeth mL_types 2 := ⟨(lw_use_in (u4 (List.mem_of_getElem? (i := 129) rfl)) rfl), (lw_use_in (u1 (List.mem_of_getElem? (i := 0) rfl)) rfl), ⟨by decide +kernel, by decide +kernel⟩, Nat.le_of_ble_eq_true rfl, by decide +kernel⟩
theorem sL_types : Cond.static yL_types ∈ lw_use := (lw_use_in (u4 (List.mem_of_getElem? (i := 128) rfl)) rfl)
def mL_name : mM := (yL_name, cL_name, 1, some (FieldType.object "java/lang/String"))
theorem qL_name : mMeth mL_name 1 := ⟨(lw_use_in (u4 (List.mem_of_getElem? (i := 185) rfl)) rfl), (lw_use_in (u1 (List.mem_of_getElem? (i := 0) rfl)) rfl), ⟨by decide +kernel, by decide +kernel⟩, Nat.le_of_ble_eq_true rfl, by decide +kernel⟩
theorem sL_name : Cond.static yL_name ∈ lw_use := (lw_use_in (u4 (List.mem_of_getElem? (i := 184) rfl)) rfl)
def mL_sight : mM := (yL_sight, cL_sight, 4, some FieldType.long)
theorem qL_sight : mMeth mL_sight 1 := ⟨(lw_use_in (u5 (List.mem_of_getElem? (i := 151) rfl)) rfl), (lw_use_in (u1 (List.mem_of_getElem? (i := 0) rfl)) rfl), ⟨by decide +kernel, by decide +kernel⟩, Nat.le_of_ble_eq_true rfl, by decide +kernel⟩
theorem sL_sight : Cond.static yL_sight ∈ lw_use := (lw_use_in (u5 (List.mem_of_getElem? (i := 150) rfl)) rfl)
def mL_text : mM := (yL_text, cL_text, 1, some (FieldType.object "java/lang/String"))
theorem qL_text : mMeth mL_text 1 := ⟨(lw_use_in (u5 (List.mem_of_getElem? (i := 160) rfl)) rfl), (lw_use_in (u1 (List.mem_of_getElem? (i := 0) rfl)) rfl), ⟨by decide +kernel, by decide +kernel⟩, Nat.le_of_ble_eq_true rfl, by decide +kernel⟩
theorem sL_text : Cond.static yL_text ∈ lw_use := (lw_use_in (u5 (List.mem_of_getElem? (i := 159) rfl)) rfl)
theorem fX1_7 : mFld RX1 7 1 0 (.array .int) true := ⟨_, rfl, by decide, (lw_use_in (u1 (List.mem_of_getElem? (i := 43) rfl)) rfl), tyX1_ok 0 (by decide), rfl⟩
theorem fX2_65 : mFld RX2 65 1 0 (.array .int) true := ⟨_, rfl, by decide, (lw_use_in (u1 (List.mem_of_getElem? (i := 44) rfl)) rfl), tyX1_ok 0 (by decide), rfl⟩
theorem fX10_55 : mFld RX10 55 1 1 .int false := ⟨_, rfl, by decide, (lw_use_in (u1 (List.mem_of_getElem? (i := 45) rfl)) rfl), tyX1_ok 1 (by decide), rfl⟩
theorem fX1_13 : mFld RX1 13 1 1 .int false := ⟨_, rfl, by decide, (lw_use_in (u1 (List.mem_of_getElem? (i := 46) rfl)) rfl), tyX1_ok 1 (by decide), rfl⟩
theorem fX0_30 : mFld RX0 30 1 1 .int false := ⟨_, rfl, by decide, (lw_use_in (u1 (List.mem_of_getElem? (i := 47) rfl)) rfl), tyX1_ok 1 (by decide), rfl⟩
theorem fX3_88 : mFld RX3 88 1 1 .int false := ⟨_, rfl, by decide, (lw_use_in (u1 (List.mem_of_getElem? (i := 48) rfl)) rfl), tyX1_ok 1 (by decide), rfl⟩
theorem fX2_62 : mFld RX2 62 1 1 .int false := ⟨_, rfl, by decide, (lw_use_in (u1 (List.mem_of_getElem? (i := 49) rfl)) rfl), tyX1_ok 1 (by decide), rfl⟩
theorem fX9_144 : mFld RX9 144 1 1 .int false := ⟨_, rfl, by decide, (lw_use_in (u1 (List.mem_of_getElem? (i := 50) rfl)) rfl), tyX1_ok 1 (by decide), rfl⟩
theorem fX2_14 : mFld RX2 14 2 0 (.object "ScopeWarden$Ints") true := ⟨_, rfl, by decide, (lw_use_in (u1 (List.mem_of_getElem? (i := 57) rfl)) rfl), tyX2_ok 0 (by decide), rfl⟩
theorem fX10_18 : mFld RX10 18 2 0 (.object "ScopeWarden$Ints") true := ⟨_, rfl, by decide, (lw_use_in (u1 (List.mem_of_getElem? (i := 58) rfl)) rfl), tyX2_ok 0 (by decide), rfl⟩
theorem fX2_53 : mFld RX2 53 2 1 .int false := ⟨_, rfl, by decide, (lw_use_in (u1 (List.mem_of_getElem? (i := 59) rfl)) rfl), tyX2_ok 1 (by decide), rfl⟩
theorem fX2_49 : mFld RX2 49 2 2 .int false := ⟨_, rfl, by decide, (lw_use_in (u1 (List.mem_of_getElem? (i := 60) rfl)) rfl), tyX2_ok 2 (by decide), rfl⟩
theorem fX10_116 : mFld RX10 116 2 2 .int false := ⟨_, rfl, by decide, (lw_use_in (u1 (List.mem_of_getElem? (i := 61) rfl)) rfl), tyX2_ok 2 (by decide), rfl⟩
theorem fX2_59 : mFld RX2 59 2 3 .int false := ⟨_, rfl, by decide, (lw_use_in (u1 (List.mem_of_getElem? (i := 62) rfl)) rfl), tyX2_ok 3 (by decide), rfl⟩
theorem fX5_14 : mFld RX5 14 5 0 (.object "ScopeWarden$Ints") true := ⟨_, rfl, by decide, (lw_use_in (u1 (List.mem_of_getElem? (i := 80) rfl)) rfl), tyX5_ok 0 (by decide), rfl⟩
theorem fX10_30 : mFld RX10 30 5 0 (.object "ScopeWarden$Ints") true := ⟨_, rfl, by decide, (lw_use_in (u1 (List.mem_of_getElem? (i := 81) rfl)) rfl), tyX5_ok 0 (by decide), rfl⟩
theorem fX0_14 : mFld RX0 14 0 0 (.object "ScopeWarden$Ints") true := ⟨_, rfl, by decide, (lw_use_in (u1 (List.mem_of_getElem? (i := 115) rfl)) rfl), tyX0_ok 0 (by decide), rfl⟩
theorem fX9_203 : mFld RX9 203 0 0 (.object "ScopeWarden$Ints") true := ⟨_, rfl, by decide, (lw_use_in (u1 (List.mem_of_getElem? (i := 116) rfl)) rfl), tyX0_ok 0 (by decide), rfl⟩
theorem fX0_20 : mFld RX0 20 0 1 (.object "ScopeWarden$Ints") true := ⟨_, rfl, by decide, (lw_use_in (u1 (List.mem_of_getElem? (i := 117) rfl)) rfl), tyX0_ok 1 (by decide), rfl⟩
theorem fX9_209 : mFld RX9 209 0 1 (.object "ScopeWarden$Ints") true := ⟨_, rfl, by decide, (lw_use_in (u1 (List.mem_of_getElem? (i := 118) rfl)) rfl), tyX0_ok 1 (by decide), rfl⟩
theorem fX0_23 : mFld RX0 23 0 2 (.object "ScopeWarden$Ints") true := ⟨_, rfl, by decide, (lw_use_in (u1 (List.mem_of_getElem? (i := 119) rfl)) rfl), tyX0_ok 2 (by decide), rfl⟩
theorem fX0_34 : mFld RX0 34 0 3 .int false := ⟨_, rfl, by decide, (lw_use_in (u1 (List.mem_of_getElem? (i := 120) rfl)) rfl), tyX0_ok 3 (by decide), rfl⟩
theorem fX8_7 : mFld RX8 7 8 0 .long false := ⟨_, rfl, by decide, (lw_use_in (u1 (List.mem_of_getElem? (i := 135) rfl)) rfl), tyX8_ok 0 (by decide), rfl⟩
theorem fX9_106 : mFld RX9 106 8 0 .long false := ⟨_, rfl, by decide, (lw_use_in (u1 (List.mem_of_getElem? (i := 136) rfl)) rfl), tyX8_ok 0 (by decide), rfl⟩
theorem fX10_186 : mFld RX10 186 8 0 .long false := ⟨_, rfl, by decide, (lw_use_in (u1 (List.mem_of_getElem? (i := 137) rfl)) rfl), tyX8_ok 0 (by decide), rfl⟩
theorem fX8_13 : mFld RX8 13 8 1 (.object "ScopeWarden$Step") false := ⟨_, rfl, by decide, (lw_use_in (u1 (List.mem_of_getElem? (i := 138) rfl)) rfl), tyX8_ok 1 (by decide), rfl⟩
theorem fX3_117 : mFld RX3 117 8 1 (.object "ScopeWarden$Step") false := ⟨_, rfl, by decide, (lw_use_in (u1 (List.mem_of_getElem? (i := 139) rfl)) rfl), tyX8_ok 1 (by decide), rfl⟩
theorem fX9_111 : mFld RX9 111 8 1 (.object "ScopeWarden$Step") false := ⟨_, rfl, by decide, (lw_use_in (u1 (List.mem_of_getElem? (i := 140) rfl)) rfl), tyX8_ok 1 (by decide), rfl⟩
theorem fX10_69 : mFld RX10 69 8 1 (.object "ScopeWarden$Step") false := ⟨_, rfl, by decide, (lw_use_in (u1 (List.mem_of_getElem? (i := 141) rfl)) rfl), tyX8_ok 1 (by decide), rfl⟩
theorem fX3_121 : mFld RX3 121 8 2 (.object "ScopeWarden$Step") false := ⟨_, rfl, by decide, (lw_use_in (u1 (List.mem_of_getElem? (i := 142) rfl)) rfl), tyX8_ok 2 (by decide), rfl⟩
theorem fX8_17 : mFld RX8 17 8 3 .int false := ⟨_, rfl, by decide, (lw_use_in (u1 (List.mem_of_getElem? (i := 143) rfl)) rfl), tyX8_ok 3 (by decide), rfl⟩
theorem fX3_114 : mFld RX3 114 8 3 .int false := ⟨_, rfl, by decide, (lw_use_in (u1 (List.mem_of_getElem? (i := 144) rfl)) rfl), tyX8_ok 3 (by decide), rfl⟩
theorem fX10_136 : mFld RX10 136 8 3 .int false := ⟨_, rfl, by decide, (lw_use_in (u1 (List.mem_of_getElem? (i := 145) rfl)) rfl), tyX8_ok 3 (by decide), rfl⟩
theorem fX9_114 : mFld RX9 114 8 3 .int false := ⟨_, rfl, by decide, (lw_use_in (u1 (List.mem_of_getElem? (i := 146) rfl)) rfl), tyX8_ok 3 (by decide), rfl⟩
theorem fX8_21 : mFld RX8 21 8 4 .int false := ⟨_, rfl, by decide, (lw_use_in (u1 (List.mem_of_getElem? (i := 147) rfl)) rfl), tyX8_ok 4 (by decide), rfl⟩
theorem fX9_117 : mFld RX9 117 8 4 .int false := ⟨_, rfl, by decide, (lw_use_in (u1 (List.mem_of_getElem? (i := 148) rfl)) rfl), tyX8_ok 4 (by decide), rfl⟩
theorem fX3_144 : mFld RX3 144 8 4 .int false := ⟨_, rfl, by decide, (lw_use_in (u1 (List.mem_of_getElem? (i := 149) rfl)) rfl), tyX8_ok 4 (by decide), rfl⟩
theorem fX10_177 : mFld RX10 177 8 4 .int false := ⟨_, rfl, by decide, (lw_use_in (u1 (List.mem_of_getElem? (i := 150) rfl)) rfl), tyX8_ok 4 (by decide), rfl⟩
theorem fX8_24 : mFld RX8 24 8 5 .int false := ⟨_, rfl, by decide, (lw_use_in (u1 (List.mem_of_getElem? (i := 151) rfl)) rfl), tyX8_ok 5 (by decide), rfl⟩
theorem fX3_130 : mFld RX3 130 8 5 .int false := ⟨_, rfl, by decide, (lw_use_in (u1 (List.mem_of_getElem? (i := 152) rfl)) rfl), tyX8_ok 5 (by decide), rfl⟩
theorem fX9_120 : mFld RX9 120 8 5 .int false := ⟨_, rfl, by decide, (lw_use_in (u1 (List.mem_of_getElem? (i := 153) rfl)) rfl), tyX8_ok 5 (by decide), rfl⟩
theorem fX10_180 : mFld RX10 180 8 5 .int false := ⟨_, rfl, by decide, (lw_use_in (u1 (List.mem_of_getElem? (i := 154) rfl)) rfl), tyX8_ok 5 (by decide), rfl⟩
theorem fX4_7 : mFld RX4 7 4 0 .int false := ⟨_, rfl, by decide, (lw_use_in (u1 (List.mem_of_getElem? (i := 173) rfl)) rfl), tyX4_ok 0 (by decide), rfl⟩
theorem fX10_99 : mFld RX10 99 4 0 .int false := ⟨_, rfl, by decide, (lw_use_in (u1 (List.mem_of_getElem? (i := 174) rfl)) rfl), tyX4_ok 0 (by decide), rfl⟩
theorem fX3_107 : mFld RX3 107 4 0 .int false := ⟨_, rfl, by decide, (lw_use_in (u1 (List.mem_of_getElem? (i := 175) rfl)) rfl), tyX4_ok 0 (by decide), rfl⟩
theorem fX9_127 : mFld RX9 127 4 0 .int false := ⟨_, rfl, by decide, (lw_use_in (u1 (List.mem_of_getElem? (i := 176) rfl)) rfl), tyX4_ok 0 (by decide), rfl⟩
theorem fX9_65 : mFld RX9 65 4 1 .int false := ⟨_, rfl, by decide, (lw_use_in (u1 (List.mem_of_getElem? (i := 177) rfl)) rfl), tyX4_ok 1 (by decide), rfl⟩
theorem fX4_13 : mFld RX4 13 4 1 .int false := ⟨_, rfl, by decide, (lw_use_in (u1 (List.mem_of_getElem? (i := 178) rfl)) rfl), tyX4_ok 1 (by decide), rfl⟩
theorem fX3_175 : mFld RX3 175 4 1 .int false := ⟨_, rfl, by decide, (lw_use_in (u1 (List.mem_of_getElem? (i := 179) rfl)) rfl), tyX4_ok 1 (by decide), rfl⟩
theorem fX10_155 : mFld RX10 155 4 1 .int false := ⟨_, rfl, by decide, (lw_use_in (u1 (List.mem_of_getElem? (i := 180) rfl)) rfl), tyX4_ok 1 (by decide), rfl⟩
theorem fX9_68 : mFld RX9 68 4 2 .int false := ⟨_, rfl, by decide, (lw_use_in (u1 (List.mem_of_getElem? (i := 181) rfl)) rfl), tyX4_ok 2 (by decide), rfl⟩
theorem fX4_16 : mFld RX4 16 4 2 .int false := ⟨_, rfl, by decide, (lw_use_in (u1 (List.mem_of_getElem? (i := 182) rfl)) rfl), tyX4_ok 2 (by decide), rfl⟩
theorem fX10_164 : mFld RX10 164 4 2 .int false := ⟨_, rfl, by decide, (lw_use_in (u1 (List.mem_of_getElem? (i := 183) rfl)) rfl), tyX4_ok 2 (by decide), rfl⟩
theorem fX7_9 : mFld RX7 9 7 0 (.object "ScopeWarden$Step") false := ⟨_, rfl, by decide, (lw_use_in (u1 (List.mem_of_getElem? (i := 196) rfl)) rfl), tyX7_ok 0 (by decide), rfl⟩
theorem fX7_15 : mFld RX7 15 7 1 (.object "ScopeWarden$Step") false := ⟨_, rfl, by decide, (lw_use_in (u1 (List.mem_of_getElem? (i := 197) rfl)) rfl), tyX7_ok 1 (by decide), rfl⟩
theorem fX3_162 : mFld RX3 162 7 1 (.object "ScopeWarden$Step") false := ⟨_, rfl, by decide, (lw_use_in (u1 (List.mem_of_getElem? (i := 198) rfl)) rfl), tyX7_ok 1 (by decide), rfl⟩
theorem fX7_18 : mFld RX7 18 7 2 .int false := ⟨_, rfl, by decide, (lw_use_in (u1 (List.mem_of_getElem? (i := 199) rfl)) rfl), tyX7_ok 2 (by decide), rfl⟩
theorem fX3_166 : mFld RX3 166 7 2 .int false := ⟨_, rfl, by decide, (lw_use_in (u1 (List.mem_of_getElem? (i := 200) rfl)) rfl), tyX7_ok 2 (by decide), rfl⟩
theorem fX7_22 : mFld RX7 22 7 3 .int false := ⟨_, rfl, by decide, (lw_use_in (u1 (List.mem_of_getElem? (i := 201) rfl)) rfl), tyX7_ok 3 (by decide), rfl⟩
theorem fX3_81 : mFld RX3 81 7 3 .int false := ⟨_, rfl, by decide, (lw_use_in (u1 (List.mem_of_getElem? (i := 202) rfl)) rfl), tyX7_ok 3 (by decide), rfl⟩
theorem fX9_143 : mFld RX9 143 7 3 .int false := ⟨_, rfl, by decide, (lw_use_in (u1 (List.mem_of_getElem? (i := 203) rfl)) rfl), tyX7_ok 3 (by decide), rfl⟩
theorem fX10_230 : mFld RX10 230 7 3 .int false := ⟨_, rfl, by decide, (lw_use_in (u1 (List.mem_of_getElem? (i := 204) rfl)) rfl), tyX7_ok 3 (by decide), rfl⟩
theorem fX7_25 : mFld RX7 25 7 4 .int false := ⟨_, rfl, by decide, (lw_use_in (u1 (List.mem_of_getElem? (i := 205) rfl)) rfl), tyX7_ok 4 (by decide), rfl⟩
theorem fX7_28 : mFld RX7 28 7 5 .int false := ⟨_, rfl, by decide, (lw_use_in (u1 (List.mem_of_getElem? (i := 206) rfl)) rfl), tyX7_ok 5 (by decide), rfl⟩
theorem fX3_64 : mFld RX3 64 7 5 .int false := ⟨_, rfl, by decide, (lw_use_in (u1 (List.mem_of_getElem? (i := 207) rfl)) rfl), tyX7_ok 5 (by decide), rfl⟩
theorem fX10_231 : mFld RX10 231 7 5 .int false := ⟨_, rfl, by decide, (lw_use_in (u1 (List.mem_of_getElem? (i := 208) rfl)) rfl), tyX7_ok 5 (by decide), rfl⟩
theorem fX7_31 : mFld RX7 31 7 6 .int false := ⟨_, rfl, by decide, (lw_use_in (u1 (List.mem_of_getElem? (i := 209) rfl)) rfl), tyX7_ok 6 (by decide), rfl⟩
theorem fX3_67 : mFld RX3 67 7 6 .int false := ⟨_, rfl, by decide, (lw_use_in (u1 (List.mem_of_getElem? (i := 210) rfl)) rfl), tyX7_ok 6 (by decide), rfl⟩
theorem fX7_34 : mFld RX7 34 7 7 .int false := ⟨_, rfl, by decide, (lw_use_in (u1 (List.mem_of_getElem? (i := 211) rfl)) rfl), tyX7_ok 7 (by decide), rfl⟩
theorem fX3_172 : mFld RX3 172 7 7 .int false := ⟨_, rfl, by decide, (lw_use_in (u1 (List.mem_of_getElem? (i := 212) rfl)) rfl), tyX7_ok 7 (by decide), rfl⟩
theorem fX7_37 : mFld RX7 37 7 8 .int false := ⟨_, rfl, by decide, (lw_use_in (u1 (List.mem_of_getElem? (i := 213) rfl)) rfl), tyX7_ok 8 (by decide), rfl⟩
theorem fX3_74 : mFld RX3 74 7 8 .int false := ⟨_, rfl, by decide, (lw_use_in (u1 (List.mem_of_getElem? (i := 214) rfl)) rfl), tyX7_ok 8 (by decide), rfl⟩
theorem fX7_40 : mFld RX7 40 7 9 .int false := ⟨_, rfl, by decide, (lw_use_in (u1 (List.mem_of_getElem? (i := 215) rfl)) rfl), tyX7_ok 9 (by decide), rfl⟩
theorem fX3_163 : mFld RX3 163 7 9 .int false := ⟨_, rfl, by decide, (lw_use_in (u1 (List.mem_of_getElem? (i := 216) rfl)) rfl), tyX7_ok 9 (by decide), rfl⟩
theorem fX9_194 : mFld RX9 194 7 9 .int false := ⟨_, rfl, by decide, (lw_use_in (u1 (List.mem_of_getElem? (i := 217) rfl)) rfl), tyX7_ok 9 (by decide), rfl⟩
theorem fX7_43 : mFld RX7 43 7 10 .boolean false := ⟨_, rfl, by decide, (lw_use_in (u1 (List.mem_of_getElem? (i := 218) rfl)) rfl), tyX7_ok 10 (by decide), rfl⟩
theorem fX3_70 : mFld RX3 70 7 10 .boolean false := ⟨_, rfl, by decide, (lw_use_in (u1 (List.mem_of_getElem? (i := 219) rfl)) rfl), tyX7_ok 10 (by decide), rfl⟩
theorem fX9_11 : mFld RX9 11 9 0 (.array (.object "ScopeWarden$Thing")) true := ⟨_, rfl, by decide, (lw_use_in (u2 (List.mem_of_getElem? (i := 11) rfl)) rfl), tyX9_ok 0 (by decide), rfl⟩
theorem fX9_19 : mFld RX9 19 9 1 (.array (.object "ScopeWarden$Scope")) true := ⟨_, rfl, by decide, (lw_use_in (u2 (List.mem_of_getElem? (i := 12) rfl)) rfl), tyX9_ok 1 (by decide), rfl⟩
theorem fX9_25 : mFld RX9 25 9 2 (.array (.object "ScopeWarden$Task")) true := ⟨_, rfl, by decide, (lw_use_in (u2 (List.mem_of_getElem? (i := 13) rfl)) rfl), tyX9_ok 2 (by decide), rfl⟩
theorem fX9_71 : mFld RX9 71 9 3 .int false := ⟨_, rfl, by decide, (lw_use_in (u2 (List.mem_of_getElem? (i := 14) rfl)) rfl), tyX9_ok 3 (by decide), rfl⟩
theorem fX10_221 : mFld RX10 221 9 3 .int false := ⟨_, rfl, by decide, (lw_use_in (u2 (List.mem_of_getElem? (i := 15) rfl)) rfl), tyX9_ok 3 (by decide), rfl⟩
theorem fX9_57 : mFld RX9 57 9 4 .int false := ⟨_, rfl, by decide, (lw_use_in (u2 (List.mem_of_getElem? (i := 16) rfl)) rfl), tyX9_ok 4 (by decide), rfl⟩
theorem fX10_273 : mFld RX10 273 9 4 .int false := ⟨_, rfl, by decide, (lw_use_in (u2 (List.mem_of_getElem? (i := 17) rfl)) rfl), tyX9_ok 4 (by decide), rfl⟩
theorem fX9_81 : mFld RX9 81 9 5 .int false := ⟨_, rfl, by decide, (lw_use_in (u2 (List.mem_of_getElem? (i := 18) rfl)) rfl), tyX9_ok 5 (by decide), rfl⟩
theorem fX10_279 : mFld RX10 279 9 5 .int false := ⟨_, rfl, by decide, (lw_use_in (u2 (List.mem_of_getElem? (i := 19) rfl)) rfl), tyX9_ok 5 (by decide), rfl⟩
theorem fX9_87 : mFld RX9 87 9 6 .int false := ⟨_, rfl, by decide, (lw_use_in (u2 (List.mem_of_getElem? (i := 20) rfl)) rfl), tyX9_ok 6 (by decide), rfl⟩
theorem fX3_61 : mFld RX3 61 9 6 .int false := ⟨_, rfl, by decide, (lw_use_in (u2 (List.mem_of_getElem? (i := 21) rfl)) rfl), tyX9_ok 6 (by decide), rfl⟩
theorem fX10_285 : mFld RX10 285 9 6 .int false := ⟨_, rfl, by decide, (lw_use_in (u2 (List.mem_of_getElem? (i := 22) rfl)) rfl), tyX9_ok 6 (by decide), rfl⟩
theorem fX9_34 : mFld RX9 34 9 7 (.object "ScopeWarden$Ints") true := ⟨_, rfl, by decide, (lw_use_in (u2 (List.mem_of_getElem? (i := 23) rfl)) rfl), tyX9_ok 7 (by decide), rfl⟩
theorem fX10_147 : mFld RX10 147 9 7 (.object "ScopeWarden$Ints") true := ⟨_, rfl, by decide, (lw_use_in (u2 (List.mem_of_getElem? (i := 24) rfl)) rfl), tyX9_ok 7 (by decide), rfl⟩
theorem fX3_178 : mFld RX3 178 9 7 (.object "ScopeWarden$Ints") true := ⟨_, rfl, by decide, (lw_use_in (u2 (List.mem_of_getElem? (i := 25) rfl)) rfl), tyX9_ok 7 (by decide), rfl⟩
theorem fX9_38 : mFld RX9 38 9 8 (.object "ScopeWarden$Ints") true := ⟨_, rfl, by decide, (lw_use_in (u2 (List.mem_of_getElem? (i := 26) rfl)) rfl), tyX9_ok 8 (by decide), rfl⟩
theorem fX3_127 : mFld RX3 127 9 8 (.object "ScopeWarden$Ints") true := ⟨_, rfl, by decide, (lw_use_in (u2 (List.mem_of_getElem? (i := 27) rfl)) rfl), tyX9_ok 8 (by decide), rfl⟩
theorem fX10_218 : mFld RX10 218 9 8 (.object "ScopeWarden$Ints") true := ⟨_, rfl, by decide, (lw_use_in (u2 (List.mem_of_getElem? (i := 28) rfl)) rfl), tyX9_ok 8 (by decide), rfl⟩
theorem fX9_41 : mFld RX9 41 9 9 (.object "ScopeWarden$Ints") true := ⟨_, rfl, by decide, (lw_use_in (u2 (List.mem_of_getElem? (i := 29) rfl)) rfl), tyX9_ok 9 (by decide), rfl⟩
theorem fX3_133 : mFld RX3 133 9 9 (.object "ScopeWarden$Ints") true := ⟨_, rfl, by decide, (lw_use_in (u2 (List.mem_of_getElem? (i := 30) rfl)) rfl), tyX9_ok 9 (by decide), rfl⟩
theorem fX9_47 : mFld RX9 47 9 10 (.object "ScopeWarden$Faults") true := ⟨_, rfl, by decide, (lw_use_in (u2 (List.mem_of_getElem? (i := 31) rfl)) rfl), tyX9_ok 10 (by decide), rfl⟩
theorem fX3_31 : mFld RX3 31 9 10 (.object "ScopeWarden$Faults") true := ⟨_, rfl, by decide, (lw_use_in (u2 (List.mem_of_getElem? (i := 32) rfl)) rfl), tyX9_ok 10 (by decide), rfl⟩
theorem fX3_12 : mFld RX3 12 3 0 (.object "ScopeWarden$World") true := ⟨_, rfl, by decide, (lw_use_in (u2 (List.mem_of_getElem? (i := 58) rfl)) rfl), tyX3_ok 0 (by decide), rfl⟩
theorem fX10_47 : mFld RX10 47 3 0 (.object "ScopeWarden$World") true := ⟨_, rfl, by decide, (lw_use_in (u2 (List.mem_of_getElem? (i := 59) rfl)) rfl), tyX3_ok 0 (by decide), rfl⟩
theorem fX3_23 : mFld RX3 23 3 1 (.object "ScopeWarden$Ints") true := ⟨_, rfl, by decide, (lw_use_in (u2 (List.mem_of_getElem? (i := 60) rfl)) rfl), tyX3_ok 1 (by decide), rfl⟩
theorem fX3_27 : mFld RX3 27 3 2 .int false := ⟨_, rfl, by decide, (lw_use_in (u2 (List.mem_of_getElem? (i := 61) rfl)) rfl), tyX3_ok 2 (by decide), rfl⟩
theorem fX10_12 : mFld RX10 12 10 0 (.object "ScopeWarden$Reader") true := ⟨_, rfl, by decide, (lw_use_in (u2 (List.mem_of_getElem? (i := 70) rfl)) rfl), tyX10_ok 0 (by decide), rfl⟩
theorem fX10_22 : mFld RX10 22 10 1 (.object "ScopeWarden$Ints") true := ⟨_, rfl, by decide, (lw_use_in (u2 (List.mem_of_getElem? (i := 71) rfl)) rfl), tyX10_ok 1 (by decide), rfl⟩
theorem fX10_26 : mFld RX10 26 10 2 (.object "ScopeWarden$Speller") true := ⟨_, rfl, by decide, (lw_use_in (u2 (List.mem_of_getElem? (i := 72) rfl)) rfl), tyX10_ok 2 (by decide), rfl⟩
theorem fX10_33 : mFld RX10 33 10 3 (.object "ScopeWarden$Ints") true := ⟨_, rfl, by decide, (lw_use_in (u2 (List.mem_of_getElem? (i := 73) rfl)) rfl), tyX10_ok 3 (by decide), rfl⟩
theorem fX10_36 : mFld RX10 36 10 4 (.array (.object "ScopeWarden$Ints")) true := ⟨_, rfl, by decide, (lw_use_in (u2 (List.mem_of_getElem? (i := 74) rfl)) rfl), tyX10_ok 4 (by decide), rfl⟩
theorem fX10_43 : mFld RX10 43 10 5 (.object "ScopeWarden$Runner") true := ⟨_, rfl, by decide, (lw_use_in (u2 (List.mem_of_getElem? (i := 75) rfl)) rfl), tyX10_ok 5 (by decide), rfl⟩
theorem fX10_51 : mFld RX10 51 10 6 (.object "ScopeWarden$World") true := ⟨_, rfl, by decide, (lw_use_in (u2 (List.mem_of_getElem? (i := 76) rfl)) rfl), tyX10_ok 6 (by decide), rfl⟩
theorem fX10_306 : mFld RX10 306 10 7 (.object "ScopeWarden$World") false := ⟨_, rfl, by decide, (lw_use_in (u2 (List.mem_of_getElem? (i := 77) rfl)) rfl), tyX10_ok 7 (by decide), rfl⟩
theorem fX10_314 : mFld RX10 314 10 8 (.object "ScopeWarden$Runner") false := ⟨_, rfl, by decide, (lw_use_in (u2 (List.mem_of_getElem? (i := 78) rfl)) rfl), tyX10_ok 8 (by decide), rfl⟩
theorem fX6_7 : mFld RX6 7 6 0 .int true := ⟨_, rfl, by decide, (lw_use_in (u2 (List.mem_of_getElem? (i := 137) rfl)) rfl), tyX6_ok 0 (by decide), rfl⟩
theorem fX3_169 : mFld RX3 169 6 0 .int true := ⟨_, rfl, by decide, (lw_use_in (u2 (List.mem_of_getElem? (i := 138) rfl)) rfl), tyX6_ok 0 (by decide), rfl⟩
theorem fX2_84 : mFld RX2 84 6 1 .int false := ⟨_, rfl, by decide, (lw_use_in (u2 (List.mem_of_getElem? (i := 139) rfl)) rfl), tyX6_ok 1 (by decide), rfl⟩
theorem fX3_181 : mFld RX3 181 6 1 .int false := ⟨_, rfl, by decide, (lw_use_in (u2 (List.mem_of_getElem? (i := 140) rfl)) rfl), tyX6_ok 1 (by decide), rfl⟩
theorem fX2_90 : mFld RX2 90 6 2 .int false := ⟨_, rfl, by decide, (lw_use_in (u2 (List.mem_of_getElem? (i := 141) rfl)) rfl), tyX6_ok 2 (by decide), rfl⟩
theorem fX3_184 : mFld RX3 184 6 2 .int false := ⟨_, rfl, by decide, (lw_use_in (u2 (List.mem_of_getElem? (i := 142) rfl)) rfl), tyX6_ok 2 (by decide), rfl⟩
theorem fX2_30 : mFld RX2 30 6 3 .long false := ⟨_, rfl, by decide, (lw_use_in (u2 (List.mem_of_getElem? (i := 143) rfl)) rfl), tyX6_ok 3 (by decide), rfl⟩
theorem fX10_122 : mFld RX10 122 6 3 .long false := ⟨_, rfl, by decide, (lw_use_in (u2 (List.mem_of_getElem? (i := 144) rfl)) rfl), tyX6_ok 3 (by decide), rfl⟩
theorem fX9_100 : mFld RX9 100 6 3 .long false := ⟨_, rfl, by decide, (lw_use_in (u2 (List.mem_of_getElem? (i := 145) rfl)) rfl), tyX6_ok 3 (by decide), rfl⟩
theorem fX3_197 : mFld RX3 197 6 3 .long false := ⟨_, rfl, by decide, (lw_use_in (u2 (List.mem_of_getElem? (i := 146) rfl)) rfl), tyX6_ok 3 (by decide), rfl⟩
theorem fX2_45 : mFld RX2 45 6 4 (.object "ScopeWarden$Step") false := ⟨_, rfl, by decide, (lw_use_in (u2 (List.mem_of_getElem? (i := 147) rfl)) rfl), tyX6_ok 4 (by decide), rfl⟩
theorem fX9_107 : mFld RX9 107 6 4 (.object "ScopeWarden$Step") false := ⟨_, rfl, by decide, (lw_use_in (u2 (List.mem_of_getElem? (i := 148) rfl)) rfl), tyX6_ok 4 (by decide), rfl⟩
theorem fX3_187 : mFld RX3 187 6 4 (.object "ScopeWarden$Step") false := ⟨_, rfl, by decide, (lw_use_in (u2 (List.mem_of_getElem? (i := 149) rfl)) rfl), tyX6_ok 4 (by decide), rfl⟩
theorem fX2_73 : mFld RX2 73 6 5 (.object "ScopeWarden$Step") false := ⟨_, rfl, by decide, (lw_use_in (u2 (List.mem_of_getElem? (i := 150) rfl)) rfl), tyX6_ok 5 (by decide), rfl⟩
theorem fX3_139 : mFld RX3 139 6 5 (.object "ScopeWarden$Step") false := ⟨_, rfl, by decide, (lw_use_in (u2 (List.mem_of_getElem? (i := 151) rfl)) rfl), tyX6_ok 5 (by decide), rfl⟩
theorem fX10_317 : mFld RX10 317 6 5 (.object "ScopeWarden$Step") false := ⟨_, rfl, by decide, (lw_use_in (u2 (List.mem_of_getElem? (i := 152) rfl)) rfl), tyX6_ok 5 (by decide), rfl⟩
theorem gJ0_38 : Cond.fieldLink RJ0 38 "java/lang/String" "COMPACT_STRINGS" "Z" ∈ lw_use := (lw_use_in (u4 (List.mem_of_getElem? (i := 138) rfl)) rfl)
theorem gJ0_1053 : Cond.fieldLink RJ0 1053 "jdk/internal/util/Preconditions" "SIOOBE_FORMATTER" "Ljava/util/function/BiFunction;" ∈ lw_use := (lw_use_in (u4 (List.mem_of_getElem? (i := 154) rfl)) rfl)
theorem gJ2_44 : Cond.fieldLink RJ2 44 "java/lang/StringUTF16" "$assertionsDisabled" "Z" ∈ lw_use := (lw_use_in (u4 (List.mem_of_getElem? (i := 172) rfl)) rfl)
theorem gJ2_59 : Cond.fieldLink RJ2 59 "java/lang/StringUTF16" "HI_BYTE_SHIFT" "I" ∈ lw_use := (lw_use_in (u4 (List.mem_of_getElem? (i := 174) rfl)) rfl)
theorem gJ2_63 : Cond.fieldLink RJ2 63 "java/lang/StringUTF16" "LO_BYTE_SHIFT" "I" ∈ lw_use := (lw_use_in (u4 (List.mem_of_getElem? (i := 176) rfl)) rfl)
theorem gJ5_18 : Cond.fieldLink RJ5 18 "java/lang/String" "COMPACT_STRINGS" "Z" ∈ lw_use := (lw_use_in (u4 (List.mem_of_getElem? (i := 195) rfl)) rfl)
theorem fJ5_15 : mFld RJ5 15 12 0 (.array .byte) false := ⟨_, rfl, by decide, (lw_use_in (u4 (List.mem_of_getElem? (i := 203) rfl)) rfl), tyJ4_ok 0 (by decide), rfl⟩
theorem fJ5_22 : mFld RJ5 22 12 1 .byte false := ⟨_, rfl, by decide, (lw_use_in (u4 (List.mem_of_getElem? (i := 204) rfl)) rfl), tyJ4_ok 1 (by decide), rfl⟩
theorem fJ0_1048 : mFld RJ0 1048 12 2 .boolean false := ⟨_, rfl, by decide, (lw_use_in (u4 (List.mem_of_getElem? (i := 205) rfl)) rfl), tyJ4_ok 2 (by decide), rfl⟩
theorem fJ5_79 : mFld RJ5 79 12 3 .int false := ⟨_, rfl, by decide, (lw_use_in (u4 (List.mem_of_getElem? (i := 206) rfl)) rfl), tyJ4_ok 3 (by decide), rfl⟩
theorem fJ0_9 : mFld RJ0 9 11 0 (.array .byte) true := ⟨_, rfl, by decide, (lw_use_in (u5 (List.mem_of_getElem? (i := 138) rfl)) rfl), tyJ0_ok 0 (by decide), rfl⟩
theorem fJ0_15 : mFld RJ0 15 11 1 .byte true := ⟨_, rfl, by decide, (lw_use_in (u5 (List.mem_of_getElem? (i := 139) rfl)) rfl), tyJ0_ok 1 (by decide), rfl⟩
theorem gJ6_83 : Cond.fieldLink RJ6 83 "java/lang/Integer" "DigitOnes" "[B" ∈ lw_use := (lw_use_in (u5 (List.mem_of_getElem? (i := 176) rfl)) rfl)
theorem gJ6_87 : Cond.fieldLink RJ6 87 "java/lang/Integer" "DigitTens" "[B" ∈ lw_use := (lw_use_in (u5 (List.mem_of_getElem? (i := 178) rfl)) rfl)
theorem gJ2_403 : Cond.fieldLink RJ2 403 "java/lang/Integer" "DigitOnes" "[B" ∈ lw_use := (lw_use_in (u5 (List.mem_of_getElem? (i := 186) rfl)) rfl)
theorem gJ2_407 : Cond.fieldLink RJ2 407 "java/lang/Integer" "DigitTens" "[B" ∈ lw_use := (lw_use_in (u5 (List.mem_of_getElem? (i := 187) rfl)) rfl)
theorem kL_89 : mLk RL 89 mX10_init := Or.inl (lw_use_in (u1 (List.mem_of_getElem? (i := 25) rfl)) rfl)
theorem kX10_3 : Cond.methodLink RX10 3 Lib.objectInit ∈ lw_use := (lw_use_in (u1 (List.mem_of_getElem? (i := 28) rfl)) rfl)
theorem kX2_3 : Cond.methodLink RX2 3 Lib.objectInit ∈ lw_use := (lw_use_in (u1 (List.mem_of_getElem? (i := 36) rfl)) rfl)
theorem kX2_11 : mLk RX2 11 mX1_init := Or.inl (lw_use_in (u1 (List.mem_of_getElem? (i := 39) rfl)) rfl)
theorem kX1_1 : Cond.methodLink RX1 1 Lib.objectInit ∈ lw_use := (lw_use_in (u1 (List.mem_of_getElem? (i := 42) rfl)) rfl)
theorem kX5_3 : Cond.methodLink RX5 3 Lib.objectInit ∈ lw_use := (lw_use_in (u1 (List.mem_of_getElem? (i := 77) rfl)) rfl)
theorem kX5_11 : mLk RX5 11 mX1_init := Or.inl (lw_use_in (u1 (List.mem_of_getElem? (i := 79) rfl)) rfl)
theorem kX3_3 : Cond.methodLink RX3 3 Lib.objectInit ∈ lw_use := (lw_use_in (u1 (List.mem_of_getElem? (i := 92) rfl)) rfl)
theorem kX3_11 : mLk RX3 11 mX9_init := Or.inl (lw_use_in (u1 (List.mem_of_getElem? (i := 95) rfl)) rfl)
theorem kX9_3 : Cond.methodLink RX9 3 Lib.objectInit ∈ lw_use := (lw_use_in (u1 (List.mem_of_getElem? (i := 98) rfl)) rfl)
theorem kX9_31 : mLk RX9 31 mX1_init := Or.inl (lw_use_in (u1 (List.mem_of_getElem? (i := 106) rfl)) rfl)
theorem kX0_3 : Cond.methodLink RX0 3 Lib.objectInit ∈ lw_use := (lw_use_in (u1 (List.mem_of_getElem? (i := 112) rfl)) rfl)
theorem kX0_11 : mLk RX0 11 mX1_init := Or.inl (lw_use_in (u1 (List.mem_of_getElem? (i := 114) rfl)) rfl)
theorem kX8_1 : Cond.methodLink RX8 1 Lib.objectInit ∈ lw_use := (lw_use_in (u1 (List.mem_of_getElem? (i := 134) rfl)) rfl)
theorem kX4_1 : Cond.methodLink RX4 1 Lib.objectInit ∈ lw_use := (lw_use_in (u1 (List.mem_of_getElem? (i := 172) rfl)) rfl)
theorem kX7_3 : Cond.methodLink RX7 3 Lib.objectInit ∈ lw_use := (lw_use_in (u1 (List.mem_of_getElem? (i := 195) rfl)) rfl)
theorem kX9_54 : mLk RX9 54 mX1_becomeZeros := Or.inl (lw_use_in (u2 (List.mem_of_getElem? (i := 3) rfl)) rfl)
theorem kX9_61 : mLk RX9 61 mX9_scopeAt := Or.inl (lw_use_in (u2 (List.mem_of_getElem? (i := 7) rfl)) rfl)
theorem kX3_20 : mLk RX3 20 mX1_init := Or.inl (lw_use_in (u2 (List.mem_of_getElem? (i := 57) rfl)) rfl)
theorem kX10_52 : mLk RX10 52 mX1_init := Or.inl (lw_use_in (u2 (List.mem_of_getElem? (i := 69) rfl)) rfl)
theorem kL_115 : mLk RL 115 mX10_clear := Or.inl (lw_use_in (u2 (List.mem_of_getElem? (i := 98) rfl)) rfl)
theorem kL_98 : mLk RL 98 mX10_open := Or.inl (lw_use_in (u2 (List.mem_of_getElem? (i := 102) rfl)) rfl)
theorem kX10_95 : mLk RX10 95 mX9_scopeAt := Or.inl (lw_use_in (u2 (List.mem_of_getElem? (i := 106) rfl)) rfl)
theorem kX10_104 : mLk RX10 104 mX9_scopesAreFull := Or.inl (lw_use_in (u2 (List.mem_of_getElem? (i := 107) rfl)) rfl)
theorem kX10_108 : mLk RX10 108 mX9_addScope := Or.inl (lw_use_in (u2 (List.mem_of_getElem? (i := 111) rfl)) rfl)
theorem kX9_123 : mLk RX9 123 mX1_append := Or.inl (lw_use_in (u2 (List.mem_of_getElem? (i := 115) rfl)) rfl)
theorem kL_112 : mLk RL 112 mX10_take := Or.inl (lw_use_in (u2 (List.mem_of_getElem? (i := 119) rfl)) rfl)
theorem kX10_112 : mLk RX10 112 mX2_readThing := Or.inl (lw_use_in (u2 (List.mem_of_getElem? (i := 123) rfl)) rfl)
theorem kX2_20 : mLk RX2 20 mX2_begin := Or.inl (lw_use_in (u2 (List.mem_of_getElem? (i := 127) rfl)) rfl)
theorem kX2_25 : mLk RX2 25 mX6_init := Or.inl (lw_use_in (u2 (List.mem_of_getElem? (i := 133) rfl)) rfl)
theorem kX6_1 : Cond.methodLink RX6 1 Lib.objectInit ∈ lw_use := (lw_use_in (u2 (List.mem_of_getElem? (i := 136) rfl)) rfl)
theorem kX2_26 : mLk RX2 26 mX2_readName := Or.inl (lw_use_in (u2 (List.mem_of_getElem? (i := 166) rfl)) rfl)
theorem kX2_34 : mLk RX2 34 mX2_here := Or.inl (lw_use_in (u2 (List.mem_of_getElem? (i := 170) rfl)) rfl)
theorem kX2_103 : mLk RX2 103 mX2_isLetter := Or.inl (lw_use_in (u2 (List.mem_of_getElem? (i := 174) rfl)) rfl)
theorem kX2_56 : mLk RX2 56 mX2_failAt := Or.inl (lw_use_in (u2 (List.mem_of_getElem? (i := 177) rfl)) rfl)
theorem kX2_38 : mLk RX2 38 mX2_expect := Or.inl (lw_use_in (u2 (List.mem_of_getElem? (i := 181) rfl)) rfl)
theorem kX2_41 : mLk RX2 41 mX2_readSteps := Or.inl (lw_use_in (u2 (List.mem_of_getElem? (i := 185) rfl)) rfl)
theorem kX2_69 : mLk RX2 69 mX2_readStep := Or.inl (lw_use_in (u2 (List.mem_of_getElem? (i := 189) rfl)) rfl)
theorem kX2_76 : mLk RX2 76 mX2_mayBegin := Or.inl (lw_use_in (u2 (List.mem_of_getElem? (i := 193) rfl)) rfl)
theorem kX2_80 : mLk RX2 80 mX2_readFigure := Or.inl (lw_use_in (u2 (List.mem_of_getElem? (i := 197) rfl)) rfl)
theorem kX2_87 : mLk RX2 87 mX2_readValue := Or.inl (lw_use_in (u2 (List.mem_of_getElem? (i := 201) rfl)) rfl)
theorem kX2_100 : mLk RX2 100 mX2_readFigures := Or.inl (lw_use_in (u2 (List.mem_of_getElem? (i := 205) rfl)) rfl)
theorem kX2_93 : mLk RX2 93 mX2_readFaultNumber := Or.inl (lw_use_in (u2 (List.mem_of_getElem? (i := 209) rfl)) rfl)
theorem kX2_96 : mLk RX2 96 mX2_readCloser := Or.inl (lw_use_in (u2 (List.mem_of_getElem? (i := 213) rfl)) rfl)
theorem kX10_119 : mLk RX10 119 mX9_thingsAreFull := Or.inl (lw_use_in (u2 (List.mem_of_getElem? (i := 217) rfl)) rfl)
theorem kX10_128 : mLk RX10 128 mX9_heldWithName := Or.inl (lw_use_in (u2 (List.mem_of_getElem? (i := 221) rfl)) rfl)
theorem kX10_132 : mLk RX10 132 mX9_addThing := Or.inl (lw_use_in (u2 (List.mem_of_getElem? (i := 225) rfl)) rfl)
theorem kX9_96 : mLk RX9 96 mX9_thingAt := Or.inl (lw_use_in (u2 (List.mem_of_getElem? (i := 229) rfl)) rfl)
theorem kL_127 : mLk RL 127 mX10_close := Or.inl (lw_use_in (u2 (List.mem_of_getElem? (i := 233) rfl)) rfl)
theorem kX10_63 : mLk RX10 63 mX9_thingAt := Or.inl (lw_use_in (u2 (List.mem_of_getElem? (i := 237) rfl)) rfl)
theorem kX10_137 : mLk RX10 137 mX3_endInCall := Or.inl (lw_use_in (u2 (List.mem_of_getElem? (i := 238) rfl)) rfl)
theorem kX3_35 : mLk RX3 35 mX0_beginCall := Or.inl (lw_use_in (u3 (List.mem_of_getElem? (i := 2) rfl)) rfl)
theorem kX3_40 : mLk RX3 40 mX3_beginToEnd := Or.inl (lw_use_in (u3 (List.mem_of_getElem? (i := 6) rfl)) rfl)
theorem kX3_103 : mLk RX3 103 mX9_scopeAt := Or.inl (lw_use_in (u3 (List.mem_of_getElem? (i := 10) rfl)) rfl)
theorem kX3_110 : mLk RX3 110 mX9_thingAt := Or.inl (lw_use_in (u3 (List.mem_of_getElem? (i := 11) rfl)) rfl)
theorem kX3_84 : mLk RX3 84 mX1_append := Or.inl (lw_use_in (u3 (List.mem_of_getElem? (i := 12) rfl)) rfl)
theorem kX3_43 : mLk RX3 43 mX3_work := Or.inl (lw_use_in (u3 (List.mem_of_getElem? (i := 13) rfl)) rfl)
theorem kX3_91 : mLk RX3 91 mX1_at := Or.inl (lw_use_in (u3 (List.mem_of_getElem? (i := 18) rfl)) rfl)
theorem kX1_17 : mLk RX1 17 mX1_has := Or.inl (lw_use_in (u3 (List.mem_of_getElem? (i := 22) rfl)) rfl)
theorem kX3_94 : mLk RX3 94 mX3_goOnWithTask := Or.inl (lw_use_in (u3 (List.mem_of_getElem? (i := 26) rfl)) rfl)
theorem kX3_57 : mLk RX3 57 mX9_taskAt := Or.inl (lw_use_in (u3 (List.mem_of_getElem? (i := 30) rfl)) rfl)
theorem kX3_124 : mLk RX3 124 mX3_leave := Or.inl (lw_use_in (u3 (List.mem_of_getElem? (i := 34) rfl)) rfl)
theorem kX3_158 : mLk RX3 158 mX3_goOnShuttingScopesOf := Or.inl (lw_use_in (u3 (List.mem_of_getElem? (i := 38) rfl)) rfl)
theorem kX3_46 : mLk RX3 46 mX9_faultCount := Or.inl (lw_use_in (u3 (List.mem_of_getElem? (i := 42) rfl)) rfl)
theorem kX9_197 : mLk RX9 197 mX0_gatheredBy := Or.inl (lw_use_in (u3 (List.mem_of_getElem? (i := 46) rfl)) rfl)
theorem kX0_37 : mLk RX0 37 mX1_at := Or.inl (lw_use_in (u3 (List.mem_of_getElem? (i := 50) rfl)) rfl)
theorem kX9_200 : mLk RX9 200 mX9_ownFault := Or.inl (lw_use_in (u3 (List.mem_of_getElem? (i := 51) rfl)) rfl)
theorem kX9_128 : mLk RX9 128 mX9_taskAt := Or.inl (lw_use_in (u3 (List.mem_of_getElem? (i := 55) rfl)) rfl)
theorem kX3_147 : mLk RX3 147 mX3_perform := Or.inl (lw_use_in (u3 (List.mem_of_getElem? (i := 56) rfl)) rfl)
theorem kX3_189 : mLk RX3 189 mX1_put := Or.inl (lw_use_in (u3 (List.mem_of_getElem? (i := 60) rfl)) rfl)
theorem kX3_193 : mLk RX3 193 mX3_takeInto := Or.inl (lw_use_in (u3 (List.mem_of_getElem? (i := 64) rfl)) rfl)
theorem kX3_77 : mLk RX3 77 mX9_isOpen := Or.inl (lw_use_in (u3 (List.mem_of_getElem? (i := 68) rfl)) rfl)
theorem kX3_218 : mLk RX3 218 mX9_heldWithName := Or.inl (lw_use_in (u3 (List.mem_of_getElem? (i := 72) rfl)) rfl)
theorem kX3_221 : mLk RX3 221 mX9_thingsAreFull := Or.inl (lw_use_in (u3 (List.mem_of_getElem? (i := 73) rfl)) rfl)
theorem kX3_225 : mLk RX3 225 mX9_addThing := Or.inl (lw_use_in (u3 (List.mem_of_getElem? (i := 74) rfl)) rfl)
theorem kX3_201 : mLk RX3 201 mX3_closeNamed := Or.inl (lw_use_in (u3 (List.mem_of_getElem? (i := 75) rfl)) rfl)
theorem kX3_205 : mLk RX3 205 mX3_moveNamed := Or.inl (lw_use_in (u3 (List.mem_of_getElem? (i := 79) rfl)) rfl)
theorem kX3_228 : mLk RX3 228 mX9_moveThing := Or.inl (lw_use_in (u3 (List.mem_of_getElem? (i := 83) rfl)) rfl)
theorem kX9_140 : mLk RX9 140 mX1_drop := Or.inl (lw_use_in (u3 (List.mem_of_getElem? (i := 87) rfl)) rfl)
theorem kX3_209 : mLk RX3 209 mX3_askToCancel := Or.inl (lw_use_in (u3 (List.mem_of_getElem? (i := 91) rfl)) rfl)
theorem kX3_212 : mLk RX3 212 mX3_openInner := Or.inl (lw_use_in (u3 (List.mem_of_getElem? (i := 95) rfl)) rfl)
theorem kX3_231 : mLk RX3 231 mX9_scopesAreFull := Or.inl (lw_use_in (u3 (List.mem_of_getElem? (i := 99) rfl)) rfl)
theorem kX3_234 : mLk RX3 234 mX9_addScope := Or.inl (lw_use_in (u3 (List.mem_of_getElem? (i := 100) rfl)) rfl)
theorem kX3_215 : mLk RX3 215 mX3_shutInner := Or.inl (lw_use_in (u3 (List.mem_of_getElem? (i := 101) rfl)) rfl)
theorem kX3_97 : mLk RX3 97 mX3_goOnShutting := Or.inl (lw_use_in (u3 (List.mem_of_getElem? (i := 105) rfl)) rfl)
theorem kX3_155 : mLk RX3 155 mX9_lastToEnd := Or.inl (lw_use_in (u3 (List.mem_of_getElem? (i := 109) rfl)) rfl)
theorem kX9_147 : mLk RX9 147 mX1_at := Or.inl (lw_use_in (u3 (List.mem_of_getElem? (i := 113) rfl)) rfl)
theorem kX9_154 : mLk RX9 154 mX9_isOpen := Or.inl (lw_use_in (u3 (List.mem_of_getElem? (i := 114) rfl)) rfl)
theorem kX9_157 : mLk RX9 157 mX9_isHeld := Or.inl (lw_use_in (u3 (List.mem_of_getElem? (i := 115) rfl)) rfl)
theorem kX9_151 : mLk RX9 151 mX9_ownerOf := Or.inl (lw_use_in (u3 (List.mem_of_getElem? (i := 119) rfl)) rfl)
theorem kX3_136 : mLk RX3 136 mX1_drop := Or.inl (lw_use_in (u3 (List.mem_of_getElem? (i := 123) rfl)) rfl)
theorem kX3_100 : mLk RX3 100 mX3_goOnClosing := Or.inl (lw_use_in (u3 (List.mem_of_getElem? (i := 124) rfl)) rfl)
theorem kX3_151 : mLk RX3 151 mX0_gather := Or.inl (lw_use_in (u3 (List.mem_of_getElem? (i := 128) rfl)) rfl)
theorem kX0_26 : mLk RX0 26 mX1_append := Or.inl (lw_use_in (u3 (List.mem_of_getElem? (i := 132) rfl)) rfl)
theorem kL_133 : mLk RL 133 mX10_shut := Or.inl (lw_use_in (u3 (List.mem_of_getElem? (i := 133) rfl)) rfl)
theorem kL_139 : mLk RL 139 mX10_move := Or.inl (lw_use_in (u3 (List.mem_of_getElem? (i := 137) rfl)) rfl)
theorem kX10_140 : mLk RX10 140 mX9_moveThing := Or.inl (lw_use_in (u3 (List.mem_of_getElem? (i := 141) rfl)) rfl)
theorem kX10_144 : mLk RX10 144 mX9_entriesOf := Or.inl (lw_use_in (u3 (List.mem_of_getElem? (i := 142) rfl)) rfl)
theorem kL_57 : mLk RL 57 mX10_scope := Or.inl (lw_use_in (u3 (List.mem_of_getElem? (i := 146) rfl)) rfl)
theorem kX10_158 : mLk RX10 158 mX9_heldWithin := Or.inl (lw_use_in (u3 (List.mem_of_getElem? (i := 150) rfl)) rfl)
theorem kX9_164 : mLk RX9 164 mX9_isWithin := Or.inl (lw_use_in (u3 (List.mem_of_getElem? (i := 154) rfl)) rfl)
theorem kX10_161 : mLk RX10 161 mX9_scopesAbove := Or.inl (lw_use_in (u3 (List.mem_of_getElem? (i := 158) rfl)) rfl)
theorem kL_163 : mLk RL 163 mX10_below := Or.inl (lw_use_in (u3 (List.mem_of_getElem? (i := 162) rfl)) rfl)
theorem kX10_167 : mLk RX10 167 mX9_isWithin := Or.inl (lw_use_in (u3 (List.mem_of_getElem? (i := 166) rfl)) rfl)
theorem kL_166 : mLk RL 166 mX10_youngest := Or.inl (lw_use_in (u3 (List.mem_of_getElem? (i := 167) rfl)) rfl)
theorem kX10_171 : mLk RX10 171 mX9_youngestWithin := Or.inl (lw_use_in (u3 (List.mem_of_getElem? (i := 171) rfl)) rfl)
theorem kL_53 : mLk RL 53 mX10_thing := Or.inl (lw_use_in (u3 (List.mem_of_getElem? (i := 175) rfl)) rfl)
theorem kX10_183 : mLk RX10 183 mX10_stepsFrom := Or.inl (lw_use_in (u3 (List.mem_of_getElem? (i := 179) rfl)) rfl)
theorem kL_161 : mLk RL 161 mX10_name := Or.inl (lw_use_in (u3 (List.mem_of_getElem? (i := 182) rfl)) rfl)
theorem kX10_187 : mLk RX10 187 mX10_lettersOf := Or.inl (lw_use_in (u3 (List.mem_of_getElem? (i := 186) rfl)) rfl)
theorem kX10_190 : mLk RX10 190 mX10_letterOf := Or.inl (lw_use_in (u3 (List.mem_of_getElem? (i := 189) rfl)) rfl)
theorem kL_158 : mLk RL 158 mX10_byName := Or.inl (lw_use_in (u3 (List.mem_of_getElem? (i := 192) rfl)) rfl)
theorem kX10_202 : mLk RX10 202 mX9_heldAtPlace := Or.inl (lw_use_in (u3 (List.mem_of_getElem? (i := 196) rfl)) rfl)
theorem kX9_168 : mLk RX9 168 mX9_nameOf := Or.inl (lw_use_in (u3 (List.mem_of_getElem? (i := 200) rfl)) rfl)
theorem kX9_180 : mLk RX9 180 mX9_heldAhead := Or.inl (lw_use_in (u3 (List.mem_of_getElem? (i := 204) rfl)) rfl)
theorem kL_136 : mLk RL 136 mX10_plan := Or.inl (lw_use_in (u3 (List.mem_of_getElem? (i := 208) rfl)) rfl)
theorem kX10_205 : mLk RX10 205 mX9_planned := Or.inl (lw_use_in (u3 (List.mem_of_getElem? (i := 212) rfl)) rfl)
theorem kX9_161 : mLk RX9 161 mX9_placeOfEntry := Or.inl (lw_use_in (u3 (List.mem_of_getElem? (i := 217) rfl)) rfl)
theorem kL_130 : mLk RL 130 mX10_would := Or.inl (lw_use_in (u3 (List.mem_of_getElem? (i := 221) rfl)) rfl)
theorem kX10_208 : mLk RX10 208 mX10_thinkerOfNow := Or.inl (lw_use_in (u3 (List.mem_of_getElem? (i := 225) rfl)) rfl)
theorem kX10_310 : mLk RX10 310 mX9_become := Or.inl (lw_use_in (u3 (List.mem_of_getElem? (i := 229) rfl)) rfl)
theorem kX9_74 : mLk RX9 74 mX8_become := Or.inl (lw_use_in (u3 (List.mem_of_getElem? (i := 233) rfl)) rfl)
theorem kX9_78 : mLk RX9 78 mX4_become := Or.inl (lw_use_in (u3 (List.mem_of_getElem? (i := 237) rfl)) rfl)
theorem kX9_84 : mLk RX9 84 mX7_become := Or.inl (lw_use_in (u4 (List.mem_of_getElem? (i := 1) rfl)) rfl)
theorem kX7_47 : mLk RX7 47 mX7_start := Or.inl (lw_use_in (u4 (List.mem_of_getElem? (i := 5) rfl)) rfl)
theorem kX9_90 : mLk RX9 90 mX1_become := Or.inl (lw_use_in (u4 (List.mem_of_getElem? (i := 9) rfl)) rfl)
theorem kX9_93 : mLk RX9 93 mX0_become := Or.inl (lw_use_in (u4 (List.mem_of_getElem? (i := 13) rfl)) rfl)
theorem kX0_41 : mLk RX0 41 mX1_become := Or.inl (lw_use_in (u4 (List.mem_of_getElem? (i := 17) rfl)) rfl)
theorem kX10_212 : mLk RX10 212 mX9_faultNumber := Or.inl (lw_use_in (u4 (List.mem_of_getElem? (i := 18) rfl)) rfl)
theorem kX9_206 : mLk RX9 206 mX0_placeOf := Or.inl (lw_use_in (u4 (List.mem_of_getElem? (i := 22) rfl)) rfl)
theorem kX10_215 : mLk RX10 215 mX9_faultThing := Or.inl (lw_use_in (u4 (List.mem_of_getElem? (i := 26) rfl)) rfl)
theorem kL_145 : mLk RL 145 mX10_trial := Or.inl (lw_use_in (u4 (List.mem_of_getElem? (i := 30) rfl)) rfl)
theorem kX10_79 : mLk RX10 79 mX9_taskAt := Or.inl (lw_use_in (u4 (List.mem_of_getElem? (i := 34) rfl)) rfl)
theorem kX10_224 : mLk RX10 224 mX3_tickUpTo := Or.inl (lw_use_in (u4 (List.mem_of_getElem? (i := 35) rfl)) rfl)
theorem kX3_50 : mLk RX3 50 mX3_beginTurn := Or.inl (lw_use_in (u4 (List.mem_of_getElem? (i := 39) rfl)) rfl)
theorem kX3_54 : mLk RX3 54 mX9_readyAtPlace := Or.inl (lw_use_in (u4 (List.mem_of_getElem? (i := 43) rfl)) rfl)
theorem kX9_184 : mLk RX9 184 mX9_isReady := Or.inl (lw_use_in (u4 (List.mem_of_getElem? (i := 47) rfl)) rfl)
theorem kX9_187 : mLk RX9 187 mX9_readyAhead := Or.inl (lw_use_in (u4 (List.mem_of_getElem? (i := 51) rfl)) rfl)
theorem kX9_190 : mLk RX9 190 mX7_comesAheadOf := Or.inl (lw_use_in (u4 (List.mem_of_getElem? (i := 55) rfl)) rfl)
theorem kX10_227 : mLk RX10 227 mX9_faultCount := Or.inl (lw_use_in (u4 (List.mem_of_getElem? (i := 59) rfl)) rfl)
theorem kL_50 : mLk RL 50 mX10_log := Or.inl (lw_use_in (u4 (List.mem_of_getElem? (i := 60) rfl)) rfl)
theorem kX10_88 : mLk RX10 88 mX1_has := Or.inl (lw_use_in (u4 (List.mem_of_getElem? (i := 64) rfl)) rfl)
theorem kX10_91 : mLk RX10 91 mX1_at := Or.inl (lw_use_in (u4 (List.mem_of_getElem? (i := 65) rfl)) rfl)
theorem kL_124 : mLk RL 124 mX10_task := Or.inl (lw_use_in (u4 (List.mem_of_getElem? (i := 66) rfl)) rfl)
theorem kX10_237 : mLk RX10 237 mX10_mayBePriority := Or.inl (lw_use_in (u4 (List.mem_of_getElem? (i := 70) rfl)) rfl)
theorem kX10_240 : mLk RX10 240 mX9_tasksAreFull := Or.inl (lw_use_in (u4 (List.mem_of_getElem? (i := 73) rfl)) rfl)
theorem kX10_243 : mLk RX10 243 mX2_readTask := Or.inl (lw_use_in (u4 (List.mem_of_getElem? (i := 77) rfl)) rfl)
theorem kX10_246 : mLk RX10 246 mX9_addTask := Or.inl (lw_use_in (u4 (List.mem_of_getElem? (i := 81) rfl)) rfl)
theorem kX9_132 : mLk RX9 132 mX9_addScope := Or.inl (lw_use_in (u4 (List.mem_of_getElem? (i := 85) rfl)) rfl)
theorem kX9_136 : mLk RX9 136 mX7_start := Or.inl (lw_use_in (u4 (List.mem_of_getElem? (i := 86) rfl)) rfl)
theorem kL_149 : mLk RL 149 mX10_tick := Or.inl (lw_use_in (u4 (List.mem_of_getElem? (i := 87) rfl)) rfl)
theorem kX10_250 : mLk RX10 250 mX3_tickOnce := Or.inl (lw_use_in (u4 (List.mem_of_getElem? (i := 91) rfl)) rfl)
theorem kL_142 : mLk RL 142 mX10_ready := Or.inl (lw_use_in (u4 (List.mem_of_getElem? (i := 95) rfl)) rfl)
theorem kX10_270 : mLk RX10 270 mX9_readyAtPlace := Or.inl (lw_use_in (u4 (List.mem_of_getElem? (i := 99) rfl)) rfl)
theorem kL_43 : mLk RL 43 mX10_told := Or.inl (lw_use_in (u4 (List.mem_of_getElem? (i := 100) rfl)) rfl)
theorem kX10_276 : mLk RX10 276 mX9_openScopes := Or.inl (lw_use_in (u4 (List.mem_of_getElem? (i := 104) rfl)) rfl)
theorem kX10_282 : mLk RX10 282 mX9_readyTasks := Or.inl (lw_use_in (u4 (List.mem_of_getElem? (i := 108) rfl)) rfl)
theorem kL_152 : mLk RL 152 mX10_image := Or.inl (lw_use_in (u4 (List.mem_of_getElem? (i := 112) rfl)) rfl)
theorem kX10_309 : mLk RX10 309 mX9_init := Or.inl (lw_use_in (u4 (List.mem_of_getElem? (i := 117) rfl)) rfl)
theorem kL_155 : mLk RL 155 mX10_undo := Or.inl (lw_use_in (u4 (List.mem_of_getElem? (i := 118) rfl)) rfl)
theorem kL_90 : mLk RL 90 mL_cell := Or.inl (lw_use_in (u4 (List.mem_of_getElem? (i := 122) rfl)) rfl)
theorem kL_108 : mLk RL 108 mL_types := Or.inl (lw_use_in (u4 (List.mem_of_getElem? (i := 127) rfl)) rfl)
theorem kL_9 : mLk RL 9 mJ0_length_8abf5 := Or.inl (lw_use_in (u4 (List.mem_of_getElem? (i := 130) rfl)) rfl)
theorem kJ0_335 : mLk RJ0 335 mJ0_coder_7d493 := Or.inl (lw_use_in (u4 (List.mem_of_getElem? (i := 134) rfl)) rfl)
theorem kL_15 : mLk RL 15 mJ0_charAt_5068e := Or.inl (lw_use_in (u4 (List.mem_of_getElem? (i := 140) rfl)) rfl)
theorem kJ0_492 : mLk RJ0 492 mJ0_isLatin1_aae02 := Or.inl (lw_use_in (u4 (List.mem_of_getElem? (i := 144) rfl)) rfl)
theorem kJ0_495 : mLk RJ0 495 mJ1_charAt_3b067 := Or.inl (lw_use_in (u4 (List.mem_of_getElem? (i := 148) rfl)) rfl)
theorem kJ1_9 : mLk RJ1 9 mJ0_checkIndex_df160 := Or.inl (lw_use_in (u4 (List.mem_of_getElem? (i := 151) rfl)) rfl)
theorem kJ0_1059 : mLk RJ0 1059 mJ3_checkIndex_8e157 := Or.inl (lw_use_in (u4 (List.mem_of_getElem? (i := 156) rfl)) rfl)
theorem kJ0_498 : mLk RJ0 498 mJ2_charAt_3b067 := Or.inl (lw_use_in (u4 (List.mem_of_getElem? (i := 159) rfl)) rfl)
theorem kJ2_67 : mLk RJ2 67 mJ2_checkIndex_2214a := Or.inl (lw_use_in (u4 (List.mem_of_getElem? (i := 162) rfl)) rfl)
theorem kJ2_48 : mLk RJ2 48 mJ2_length_9d52b := Or.inl (lw_use_in (u4 (List.mem_of_getElem? (i := 165) rfl)) rfl)
theorem kJ2_414 : mLk RJ2 414 mJ0_checkIndex_df160 := Or.inl (lw_use_in (u4 (List.mem_of_getElem? (i := 168) rfl)) rfl)
theorem kJ2_71 : mLk RJ2 71 mJ2_getChar_3b067 := Or.inl (lw_use_in (u4 (List.mem_of_getElem? (i := 169) rfl)) rfl)
theorem kL_19 : mLk RL 19 mX10_feed := Or.inl (lw_use_in (u4 (List.mem_of_getElem? (i := 178) rfl)) rfl)
theorem kX10_59 : mLk RX10 59 mX1_append := Or.inl (lw_use_in (u4 (List.mem_of_getElem? (i := 182) rfl)) rfl)
theorem kL_69 : mLk RL 69 mL_name := Or.inl (lw_use_in (u4 (List.mem_of_getElem? (i := 183) rfl)) rfl)
theorem kL_27 : mLk RL 27 mJ4_init_da8c8 := Or.inl (lw_use_in (u4 (List.mem_of_getElem? (i := 188) rfl)) rfl)
theorem kJ4_1 : mLk RJ4 1 mJ5_init_d00df := Or.inl (lw_use_in (u4 (List.mem_of_getElem? (i := 191) rfl)) rfl)
theorem kJ5_3 : Cond.methodLink RJ5 3 Lib.objectInit ∈ lw_use := (lw_use_in (u4 (List.mem_of_getElem? (i := 194) rfl)) rfl)
theorem kJ5_26 : mLk RJ5 26 mJ2_newBytesFor_77867 := Or.inl (lw_use_in (u4 (List.mem_of_getElem? (i := 196) rfl)) rfl)
theorem kJ2_11 : mLk RJ2 11 mJ2_newBytesLength_0f7a4 := Or.inl (lw_use_in (u4 (List.mem_of_getElem? (i := 199) rfl)) rfl)
theorem kL_30 : mLk RL 30 mJ4_append_15ec4 := Or.inl (lw_use_in (u4 (List.mem_of_getElem? (i := 218) rfl)) rfl)
theorem kJ4_29 : mLk RJ4 29 mJ5_append_cf1ce := Or.inl (lw_use_in (u4 (List.mem_of_getElem? (i := 222) rfl)) rfl)
theorem kJ5_204 : mLk RJ5 204 mJ5_appendNull_278bc := Or.inl (lw_use_in (u4 (List.mem_of_getElem? (i := 225) rfl)) rfl)
theorem kJ5_100 : mLk RJ5 100 mJ5_ensureCapacityInternal_d00df := Or.inl (lw_use_in (u4 (List.mem_of_getElem? (i := 229) rfl)) rfl)
theorem kJ5_104 : mLk RJ5 104 mJ5_newCapacity_0f7a4 := Or.inl (lw_use_in (u4 (List.mem_of_getElem? (i := 233) rfl)) rfl)
theorem kJ5_114 : mLk RJ5 114 mJ8_newLength_cabcc := Or.inl (lw_use_in (u4 (List.mem_of_getElem? (i := 237) rfl)) rfl)
theorem kJ8_194 : mLk RJ8 194 mJ9_max_7cf53 := Or.inl (lw_use_in (u5 (List.mem_of_getElem? (i := 0) rfl)) rfl)
theorem kJ8_201 : mLk RJ8 201 mJ8_hugeLength_7cf53 := Or.inl (lw_use_in (u5 (List.mem_of_getElem? (i := 4) rfl)) rfl)
theorem kJ5_108 : mLk RJ5 108 mJ7_copyOf_9075b := Or.inl (lw_use_in (u5 (List.mem_of_getElem? (i := 8) rfl)) rfl)
theorem kJ7_310 : Cond.methodLink RJ7 310 ⟨"[B", "clone", "()Ljava/lang/Object;"⟩ ∈ lw_use := (lw_use_in (u5 (List.mem_of_getElem? (i := 11) rfl)) rfl)
theorem kJ7_304 : mLk RJ7 304 mJ9_min_7cf53 := Or.inl (lw_use_in (u5 (List.mem_of_getElem? (i := 18) rfl)) rfl)
theorem kJ7_150 : Cond.methodLink RJ7 150 arraycopyName ∈ lw_use := (lw_use_in (u5 (List.mem_of_getElem? (i := 21) rfl)) rfl)
theorem kJ5_83 : mLk RJ5 83 mJ5_isLatin1_aae02 := Or.inl (lw_use_in (u5 (List.mem_of_getElem? (i := 24) rfl)) rfl)
theorem kJ5_226 : mLk RJ5 226 mJ2_putCharsAt_cd4e5 := Or.inl (lw_use_in (u5 (List.mem_of_getElem? (i := 29) rfl)) rfl)
theorem kJ2_96 : mLk RJ2 96 mJ2_checkBoundsBeginEnd_d044e := Or.inl (lw_use_in (u5 (List.mem_of_getElem? (i := 32) rfl)) rfl)
theorem kJ2_241 : mLk RJ2 241 mJ0_checkBoundsBeginEnd_23922 := Or.inl (lw_use_in (u5 (List.mem_of_getElem? (i := 35) rfl)) rfl)
theorem kJ0_1062 : mLk RJ0 1062 mJ3_checkFromToIndex_8c36e := Or.inl (lw_use_in (u5 (List.mem_of_getElem? (i := 38) rfl)) rfl)
theorem kJ2_111 : mLk RJ2 111 mJ2_putChar_b72d1 := Or.inl (lw_use_in (u5 (List.mem_of_getElem? (i := 41) rfl)) rfl)
theorem kJ5_32 : mLk RJ5 32 mJ0_length_8abf5 := Or.inl (lw_use_in (u5 (List.mem_of_getElem? (i := 44) rfl)) rfl)
theorem kJ5_208 : mLk RJ5 208 mJ5_putStringAt_47b60 := Or.inl (lw_use_in (u5 (List.mem_of_getElem? (i := 45) rfl)) rfl)
theorem kJ5_397 : mLk RJ5 397 mJ5_inflateIfNeededFor_a7421 := Or.inl (lw_use_in (u5 (List.mem_of_getElem? (i := 49) rfl)) rfl)
theorem kJ5_40 : mLk RJ5 40 mJ0_coder_7d493 := Or.inl (lw_use_in (u5 (List.mem_of_getElem? (i := 53) rfl)) rfl)
theorem kJ5_195 : mLk RJ5 195 mJ5_inflate_da8c8 := Or.inl (lw_use_in (u5 (List.mem_of_getElem? (i := 54) rfl)) rfl)
theorem kJ5_125 : mLk RJ5 125 mJ1_inflate_0e8fd := Or.inl (lw_use_in (u5 (List.mem_of_getElem? (i := 58) rfl)) rfl)
theorem kJ1_240 : mLk RJ1 240 mJ2_inflate_0e8fd := Or.inl (lw_use_in (u5 (List.mem_of_getElem? (i := 61) rfl)) rfl)
theorem kJ2_173 : mLk RJ2 173 mJ2_checkBoundsOffCount_d044e := Or.inl (lw_use_in (u5 (List.mem_of_getElem? (i := 64) rfl)) rfl)
theorem kJ2_419 : mLk RJ2 419 mJ0_checkBoundsOffCount_cabcc := Or.inl (lw_use_in (u5 (List.mem_of_getElem? (i := 67) rfl)) rfl)
theorem kJ0_1065 : mLk RJ0 1065 mJ3_checkFromIndexSize_8c36e := Or.inl (lw_use_in (u5 (List.mem_of_getElem? (i := 70) rfl)) rfl)
theorem kJ5_399 : mLk RJ5 399 mJ0_getBytes_840e7 := Or.inl (lw_use_in (u5 (List.mem_of_getElem? (i := 73) rfl)) rfl)
theorem kJ0_212 : Cond.methodLink RJ0 212 arraycopyName ∈ lw_use := (lw_use_in (u5 (List.mem_of_getElem? (i := 77) rfl)) rfl)
theorem kJ0_106 : mLk RJ0 106 mJ1_inflate_0e8fd := Or.inl (lw_use_in (u5 (List.mem_of_getElem? (i := 78) rfl)) rfl)
theorem kL_34 : mLk RL 34 mJ4_append_cf468 := Or.inl (lw_use_in (u5 (List.mem_of_getElem? (i := 79) rfl)) rfl)
theorem kJ4_50 : mLk RJ4 50 mJ5_append_3fe6f := Or.inl (lw_use_in (u5 (List.mem_of_getElem? (i := 83) rfl)) rfl)
theorem kJ5_191 : mLk RJ5 191 mJ1_canEncode_fc78d := Or.inl (lw_use_in (u5 (List.mem_of_getElem? (i := 86) rfl)) rfl)
theorem kJ5_197 : mLk RJ5 197 mJ2_putCharSB_b72d1 := Or.inl (lw_use_in (u5 (List.mem_of_getElem? (i := 89) rfl)) rfl)
theorem kL_37 : mLk RL 37 mJ4_toString_0e30d := Or.inl (lw_use_in (u5 (List.mem_of_getElem? (i := 92) rfl)) rfl)
theorem kJ4_137 : mLk RJ4 137 mJ0_init_81219 := Or.inl (lw_use_in (u5 (List.mem_of_getElem? (i := 98) rfl)) rfl)
theorem kJ0_489 : mLk RJ0 489 mJ0_init_db425 := Or.inl (lw_use_in (u5 (List.mem_of_getElem? (i := 101) rfl)) rfl)
theorem kJ0_1 : Cond.methodLink RJ0 1 Lib.objectInit ∈ lw_use := (lw_use_in (u5 (List.mem_of_getElem? (i := 104) rfl)) rfl)
theorem kJ0_552 : mLk RJ0 552 mJ5_getValue_6d5f1 := Or.inl (lw_use_in (u5 (List.mem_of_getElem? (i := 105) rfl)) rfl)
theorem kJ0_549 : mLk RJ0 549 mJ5_length_8abf5 := Or.inl (lw_use_in (u5 (List.mem_of_getElem? (i := 110) rfl)) rfl)
theorem kJ4_343 : mLk RJ4 343 mJ5_length_8abf5 := Or.inl (lw_use_in (u5 (List.mem_of_getElem? (i := 116) rfl)) rfl)
theorem kJ0_1047 : mLk RJ0 1047 mJ5_isLatin1_aae02 := Or.inl (lw_use_in (u5 (List.mem_of_getElem? (i := 118) rfl)) rfl)
theorem kJ0_54 : mLk RJ0 54 mJ7_copyOfRange_39247 := Or.inl (lw_use_in (u5 (List.mem_of_getElem? (i := 119) rfl)) rfl)
theorem kJ7_339 : mLk RJ7 339 mJ7_copyOfRangeByte_39247 := Or.inl (lw_use_in (u5 (List.mem_of_getElem? (i := 122) rfl)) rfl)
theorem kJ7_343 : mLk RJ7 343 mJ7_checkLength_df160 := Or.inl (lw_use_in (u5 (List.mem_of_getElem? (i := 125) rfl)) rfl)
theorem kJ0_1051 : mLk RJ0 1051 mJ2_compress_39247 := Or.inl (lw_use_in (u5 (List.mem_of_getElem? (i := 128) rfl)) rfl)
theorem kJ2_123 : mLk RJ2 123 mJ2_compress_5af95 := Or.inl (lw_use_in (u5 (List.mem_of_getElem? (i := 131) rfl)) rfl)
theorem kJ2_126 : mLk RJ2 126 mJ7_copyOfRange_39247 := Or.inl (lw_use_in (u5 (List.mem_of_getElem? (i := 134) rfl)) rfl)
theorem kJ0_47 : mLk RJ0 47 mJ2_coderFromArrayLen_85cad := Or.inl (lw_use_in (u5 (List.mem_of_getElem? (i := 135) rfl)) rfl)
theorem kL_94 : mLk RL 94 mL_sight := Or.inl (lw_use_in (u5 (List.mem_of_getElem? (i := 149) rfl)) rfl)
theorem kL_46 : mLk RL 46 mX10_counter := Or.inl (lw_use_in (u5 (List.mem_of_getElem? (i := 153) rfl)) rfl)
theorem kL_103 : mLk RL 103 mL_text := Or.inl (lw_use_in (u5 (List.mem_of_getElem? (i := 158) rfl)) rfl)
theorem kL_64 : mLk RL 64 mJ4_append_bf812 := Or.inl (lw_use_in (u5 (List.mem_of_getElem? (i := 163) rfl)) rfl)
theorem kJ4_53 : mLk RJ4 53 mJ5_append_c97b9 := Or.inl (lw_use_in (u5 (List.mem_of_getElem? (i := 167) rfl)) rfl)
theorem kJ5_245 : mLk RJ5 245 mJ6_stringSize_0f7a4 := Or.inl (lw_use_in (u5 (List.mem_of_getElem? (i := 170) rfl)) rfl)
theorem kJ5_248 : mLk RJ5 248 mJ6_getChars_ba4f3 := Or.inl (lw_use_in (u5 (List.mem_of_getElem? (i := 173) rfl)) rfl)
theorem kJ5_251 : mLk RJ5 251 mJ2_getChars_46870 := Or.inl (lw_use_in (u5 (List.mem_of_getElem? (i := 180) rfl)) rfl)
theorem kJ2_393 : mLk RJ2 393 mJ2_getChars_ba4f3 := Or.inl (lw_use_in (u5 (List.mem_of_getElem? (i := 183) rfl)) rfl)
theorem kX10_11 : mLk RX10 11 mX2_init := Or.inr ⟨"ScopeWarden", (lw_use_in (u1 (List.mem_of_getElem? (i := 33) rfl)) rfl)⟩
theorem kX10_25 : mLk RX10 25 mX5_init := Or.inr ⟨"ScopeWarden", (lw_use_in (u1 (List.mem_of_getElem? (i := 74) rfl)) rfl)⟩
theorem kX10_42 : mLk RX10 42 mX3_init := Or.inr ⟨"ScopeWarden", (lw_use_in (u1 (List.mem_of_getElem? (i := 89) rfl)) rfl)⟩
theorem kX9_46 : mLk RX9 46 mX0_init := Or.inr ⟨"ScopeWarden", (lw_use_in (u1 (List.mem_of_getElem? (i := 109) rfl)) rfl)⟩
theorem kX9_51 : mLk RX9 51 mX8_init := Or.inr ⟨"ScopeWarden", (lw_use_in (u1 (List.mem_of_getElem? (i := 131) rfl)) rfl)⟩
theorem kX9_52 : mLk RX9 52 mX4_init := Or.inr ⟨"ScopeWarden", (lw_use_in (u1 (List.mem_of_getElem? (i := 169) rfl)) rfl)⟩
theorem kX9_53 : mLk RX9 53 mX7_init := Or.inr ⟨"ScopeWarden", (lw_use_in (u1 (List.mem_of_getElem? (i := 192) rfl)) rfl)⟩
theorem cL_20 : mNewC RL 20 10 9 [.null, .null, .null, .null, .null, .null, .null, .null, .null] := ⟨_, rfl, rfl, (lw_use_in (u1 (List.mem_of_getElem? (i := 23) rfl)) rfl), (lw_use_in (u1 (List.mem_of_getElem? (i := 24) rfl)) rfl), (lw_use_in (u1 (List.mem_of_getElem? (i := 1) rfl)) rfl), tyX10, tyX10_ok, by decide +kernel⟩
theorem aL_20 : Cond.classLink RL 20 "ScopeWarden" ∈ lw_use := (lw_use_in (u1 (List.mem_of_getElem? (i := 23) rfl)) rfl)
theorem cX10_9 : mNewC RX10 9 2 4 [.null, .int 0, .int 0, .int 0] := ⟨_, rfl, rfl, (lw_use_in (u1 (List.mem_of_getElem? (i := 31) rfl)) rfl), (lw_use_in (u1 (List.mem_of_getElem? (i := 32) rfl)) rfl), (lw_use_in (u1 (List.mem_of_getElem? (i := 2) rfl)) rfl), tyX2, tyX2_ok, by decide +kernel⟩
theorem aX10_9 : Cond.classLink RX10 9 "ScopeWarden$Reader" ∈ lw_use := (lw_use_in (u1 (List.mem_of_getElem? (i := 31) rfl)) rfl)
theorem cX2_9 : mNewC RX2 9 1 2 [.null, .int 0] := ⟨_, rfl, rfl, (lw_use_in (u1 (List.mem_of_getElem? (i := 37) rfl)) rfl), (lw_use_in (u1 (List.mem_of_getElem? (i := 38) rfl)) rfl), (lw_use_in (u1 (List.mem_of_getElem? (i := 3) rfl)) rfl), tyX1, tyX1_ok, by decide +kernel⟩
theorem aX2_9 : Cond.classLink RX2 9 "ScopeWarden$Ints" ∈ lw_use := (lw_use_in (u1 (List.mem_of_getElem? (i := 37) rfl)) rfl)
theorem cX10_23 : mNewC RX10 23 5 1 [.null] := ⟨_, rfl, rfl, (lw_use_in (u1 (List.mem_of_getElem? (i := 72) rfl)) rfl), (lw_use_in (u1 (List.mem_of_getElem? (i := 73) rfl)) rfl), (lw_use_in (u1 (List.mem_of_getElem? (i := 4) rfl)) rfl), tyX5, tyX5_ok, by decide +kernel⟩
theorem aX10_23 : Cond.classLink RX10 23 "ScopeWarden$Speller" ∈ lw_use := (lw_use_in (u1 (List.mem_of_getElem? (i := 72) rfl)) rfl)
theorem cX5_9 : mNewC RX5 9 1 2 [.null, .int 0] := ⟨_, rfl, rfl, (lw_use_in (u1 (List.mem_of_getElem? (i := 78) rfl)) rfl), (lw_use_in (u1 (List.mem_of_getElem? (i := 38) rfl)) rfl), (lw_use_in (u1 (List.mem_of_getElem? (i := 3) rfl)) rfl), tyX1, tyX1_ok, by decide +kernel⟩
theorem aX5_9 : Cond.classLink RX5 9 "ScopeWarden$Ints" ∈ lw_use := (lw_use_in (u1 (List.mem_of_getElem? (i := 78) rfl)) rfl)
theorem cX10_34 : mNewC RX10 34 1 2 [.null, .int 0] := ⟨_, rfl, rfl, (lw_use_in (u1 (List.mem_of_getElem? (i := 85) rfl)) rfl), (lw_use_in (u1 (List.mem_of_getElem? (i := 38) rfl)) rfl), (lw_use_in (u1 (List.mem_of_getElem? (i := 3) rfl)) rfl), tyX1, tyX1_ok, by decide +kernel⟩
theorem aX10_34 : Cond.classLink RX10 34 "ScopeWarden$Ints" ∈ lw_use := (lw_use_in (u1 (List.mem_of_getElem? (i := 85) rfl)) rfl)
theorem cX10_40 : mNewC RX10 40 3 3 [.null, .null, .int 0] := ⟨_, rfl, rfl, (lw_use_in (u1 (List.mem_of_getElem? (i := 87) rfl)) rfl), (lw_use_in (u1 (List.mem_of_getElem? (i := 88) rfl)) rfl), (lw_use_in (u1 (List.mem_of_getElem? (i := 5) rfl)) rfl), tyX3, tyX3_ok, by decide +kernel⟩
theorem aX10_40 : Cond.classLink RX10 40 "ScopeWarden$Runner" ∈ lw_use := (lw_use_in (u1 (List.mem_of_getElem? (i := 87) rfl)) rfl)
theorem cX3_9 : mNewC RX3 9 9 11 [.null, .null, .null, .int 0, .int 0, .int 0, .int 0, .null, .null, .null, .null] := ⟨_, rfl, rfl, (lw_use_in (u1 (List.mem_of_getElem? (i := 93) rfl)) rfl), (lw_use_in (u1 (List.mem_of_getElem? (i := 94) rfl)) rfl), (lw_use_in (u1 (List.mem_of_getElem? (i := 6) rfl)) rfl), tyX9, tyX9_ok, by decide +kernel⟩
theorem aX3_9 : Cond.classLink RX3 9 "ScopeWarden$World" ∈ lw_use := (lw_use_in (u1 (List.mem_of_getElem? (i := 93) rfl)) rfl)
theorem cX9_9 : mNewC RX9 9 8 6 [.long 0, .null, .null, .int 0, .int 0, .int 0] := ⟨_, rfl, rfl, (lw_use_in (u1 (List.mem_of_getElem? (i := 99) rfl)) rfl), (lw_use_in (u1 (List.mem_of_getElem? (i := 130) rfl)) rfl), (lw_use_in (u1 (List.mem_of_getElem? (i := 8) rfl)) rfl), tyX8, tyX8_ok, by decide +kernel⟩
theorem aX9_9 : Cond.classLink RX9 9 "ScopeWarden$Thing" ∈ lw_use := (lw_use_in (u1 (List.mem_of_getElem? (i := 99) rfl)) rfl)
theorem cX9_17 : mNewC RX9 17 4 3 [.int 0, .int 0, .int 0] := ⟨_, rfl, rfl, (lw_use_in (u1 (List.mem_of_getElem? (i := 101) rfl)) rfl), (lw_use_in (u1 (List.mem_of_getElem? (i := 168) rfl)) rfl), (lw_use_in (u1 (List.mem_of_getElem? (i := 9) rfl)) rfl), tyX4, tyX4_ok, by decide +kernel⟩
theorem aX9_17 : Cond.classLink RX9 17 "ScopeWarden$Scope" ∈ lw_use := (lw_use_in (u1 (List.mem_of_getElem? (i := 101) rfl)) rfl)
theorem cX9_23 : mNewC RX9 23 7 11 [.null, .null, .int 0, .int 0, .int 0, .int 0, .int 0, .int 0, .int 0, .int 0, .int 0] := ⟨_, rfl, rfl, (lw_use_in (u1 (List.mem_of_getElem? (i := 103) rfl)) rfl), (lw_use_in (u1 (List.mem_of_getElem? (i := 191) rfl)) rfl), (lw_use_in (u1 (List.mem_of_getElem? (i := 10) rfl)) rfl), tyX7, tyX7_ok, by decide +kernel⟩
theorem aX9_23 : Cond.classLink RX9 23 "ScopeWarden$Task" ∈ lw_use := (lw_use_in (u1 (List.mem_of_getElem? (i := 103) rfl)) rfl)
theorem cX9_29 : mNewC RX9 29 1 2 [.null, .int 0] := ⟨_, rfl, rfl, (lw_use_in (u1 (List.mem_of_getElem? (i := 105) rfl)) rfl), (lw_use_in (u1 (List.mem_of_getElem? (i := 38) rfl)) rfl), (lw_use_in (u1 (List.mem_of_getElem? (i := 3) rfl)) rfl), tyX1, tyX1_ok, by decide +kernel⟩
theorem aX9_29 : Cond.classLink RX9 29 "ScopeWarden$Ints" ∈ lw_use := (lw_use_in (u1 (List.mem_of_getElem? (i := 105) rfl)) rfl)
theorem cX9_44 : mNewC RX9 44 0 4 [.null, .null, .null, .int 0] := ⟨_, rfl, rfl, (lw_use_in (u1 (List.mem_of_getElem? (i := 107) rfl)) rfl), (lw_use_in (u1 (List.mem_of_getElem? (i := 108) rfl)) rfl), (lw_use_in (u1 (List.mem_of_getElem? (i := 7) rfl)) rfl), tyX0, tyX0_ok, by decide +kernel⟩
theorem aX9_44 : Cond.classLink RX9 44 "ScopeWarden$Faults" ∈ lw_use := (lw_use_in (u1 (List.mem_of_getElem? (i := 107) rfl)) rfl)
theorem cX0_9 : mNewC RX0 9 1 2 [.null, .int 0] := ⟨_, rfl, rfl, (lw_use_in (u1 (List.mem_of_getElem? (i := 113) rfl)) rfl), (lw_use_in (u1 (List.mem_of_getElem? (i := 38) rfl)) rfl), (lw_use_in (u1 (List.mem_of_getElem? (i := 3) rfl)) rfl), tyX1, tyX1_ok, by decide +kernel⟩
theorem aX0_9 : Cond.classLink RX0 9 "ScopeWarden$Ints" ∈ lw_use := (lw_use_in (u1 (List.mem_of_getElem? (i := 113) rfl)) rfl)
theorem cX3_18 : mNewC RX3 18 1 2 [.null, .int 0] := ⟨_, rfl, rfl, (lw_use_in (u2 (List.mem_of_getElem? (i := 56) rfl)) rfl), (lw_use_in (u1 (List.mem_of_getElem? (i := 38) rfl)) rfl), (lw_use_in (u1 (List.mem_of_getElem? (i := 3) rfl)) rfl), tyX1, tyX1_ok, by decide +kernel⟩
theorem aX3_18 : Cond.classLink RX3 18 "ScopeWarden$Ints" ∈ lw_use := (lw_use_in (u2 (List.mem_of_getElem? (i := 56) rfl)) rfl)
theorem cX2_23 : mNewC RX2 23 6 6 [.int 0, .int 0, .int 0, .long 0, .null, .null] := ⟨_, rfl, rfl, (lw_use_in (u2 (List.mem_of_getElem? (i := 131) rfl)) rfl), (lw_use_in (u2 (List.mem_of_getElem? (i := 132) rfl)) rfl), (lw_use_in (u1 (List.mem_of_getElem? (i := 22) rfl)) rfl), tyX6, tyX6_ok, by decide +kernel⟩
theorem aX2_23 : Cond.classLink RX2 23 "ScopeWarden$Step" ∈ lw_use := (lw_use_in (u2 (List.mem_of_getElem? (i := 131) rfl)) rfl)
theorem cX10_64 : mNewC RX10 64 9 11 [.null, .null, .null, .int 0, .int 0, .int 0, .int 0, .null, .null, .null, .null] := ⟨_, rfl, rfl, (lw_use_in (u4 (List.mem_of_getElem? (i := 116) rfl)) rfl), (lw_use_in (u1 (List.mem_of_getElem? (i := 94) rfl)) rfl), (lw_use_in (u1 (List.mem_of_getElem? (i := 6) rfl)) rfl), tyX9, tyX9_ok, by decide +kernel⟩
theorem aX10_64 : Cond.classLink RX10 64 "ScopeWarden$World" ∈ lw_use := (lw_use_in (u4 (List.mem_of_getElem? (i := 116) rfl)) rfl)
theorem cL_25 : mNewC RL 25 12 4 [.null, .int 0, .int 0, .int 0] := ⟨_, rfl, rfl, (lw_use_in (u4 (List.mem_of_getElem? (i := 186) rfl)) rfl), (lw_use_in (u4 (List.mem_of_getElem? (i := 187) rfl)) rfl), (lw_use_in (u1 (List.mem_of_getElem? (i := 12) rfl)) rfl), tyJ4, tyJ4_ok, by decide +kernel⟩
theorem aL_25 : Cond.classLink RL 25 "java/lang/StringBuilder" ∈ lw_use := (lw_use_in (u4 (List.mem_of_getElem? (i := 186) rfl)) rfl)
theorem aJ7_311 : Cond.classLink RJ7 311 "[B" ∈ lw_use := (lw_use_in (u5 (List.mem_of_getElem? (i := 17) rfl)) rfl)
theorem cJ4_18 : mNewC RJ4 18 11 4 [.null, .int 0, .int 0, .int 0] := ⟨_, rfl, rfl, (lw_use_in (u5 (List.mem_of_getElem? (i := 96) rfl)) rfl), (lw_use_in (u5 (List.mem_of_getElem? (i := 97) rfl)) rfl), (lw_use_in (u1 (List.mem_of_getElem? (i := 13) rfl)) rfl), tyJ0, tyJ0_ok, by decide +kernel⟩
theorem aJ4_18 : Cond.classLink RJ4 18 "java/lang/String" ∈ lw_use := (lw_use_in (u5 (List.mem_of_getElem? (i := 96) rfl)) rfl)
theorem oX3_87 : Cond.constant RX3 87 (1000000) ∈ lw_use := (lw_use_in (u3 (List.mem_of_getElem? (i := 17) rfl)) rfl)
theorem oX9_160 : Cond.constant RX9 160 (1000000) ∈ lw_use := (lw_use_in (u3 (List.mem_of_getElem? (i := 216) rfl)) rfl)
theorem oL_7 : Cond.constant RL 7 (69069) ∈ lw_use := (lw_use_in (u4 (List.mem_of_getElem? (i := 125) rfl)) rfl)
theorem oL_8 : Cond.constant RL 8 (1103515245) ∈ lw_use := (lw_use_in (u4 (List.mem_of_getElem? (i := 126) rfl)) rfl)
theorem oJ2_20 : Cond.constant RJ2 20 (1073741823) ∈ lw_use := (lw_use_in (u4 (List.mem_of_getElem? (i := 202) rfl)) rfl)
theorem oJ8_200 : Cond.constant RJ8 200 (2147483639) ∈ lw_use := (lw_use_in (u5 (List.mem_of_getElem? (i := 3) rfl)) rfl)
theorem oJ5_39 : Cond.constant RJ5 39 (2147483647) ∈ lw_use := (lw_use_in (u5 (List.mem_of_getElem? (i := 7) rfl)) rfl)
theorem oL_41 : Cond.constantLong RL 41 (31) ∈ lw_use := (lw_use_in (u5 (List.mem_of_getElem? (i := 152) rfl)) rfl)
theorem oX10_153 : Cond.constantLong RX10 153 (-9223372036854775808) ∈ lw_use := (lw_use_in (u5 (List.mem_of_getElem? (i := 157) rfl)) rfl)
theorem w_Ints : Cond.arrayOver (.object "ScopeWarden$Ints") ∈ lw_use := (lw_use_in (u1 (List.mem_of_getElem? (i := 86) rfl)) rfl)
theorem w_Thing : Cond.arrayOver (.object "ScopeWarden$Thing") ∈ lw_use := (lw_use_in (u1 (List.mem_of_getElem? (i := 100) rfl)) rfl)
theorem w_Scope : Cond.arrayOver (.object "ScopeWarden$Scope") ∈ lw_use := (lw_use_in (u1 (List.mem_of_getElem? (i := 102) rfl)) rfl)
theorem w_Task : Cond.arrayOver (.object "ScopeWarden$Task") ∈ lw_use := (lw_use_in (u1 (List.mem_of_getElem? (i := 104) rfl)) rfl)
theorem w_int : Cond.arrayClass .int ∈ lw_use := (lw_use_in (u1 (List.mem_of_getElem? (i := 56) rfl)) rfl)
theorem w_byte : Cond.arrayClass .byte ∈ lw_use := (lw_use_in (u4 (List.mem_of_getElem? (i := 216) rfl)) rfl)
theorem eJ5_isLatin1_aae02 : Cond.selects "java/lang/StringBuilder" yJ5_isLatin1_aae02 yJ5_isLatin1_aae02 ∈ lw_use := (lw_use_in (u5 (List.mem_of_getElem? (i := 27) rfl)) rfl)
theorem eJ5_getValue_6d5f1 : Cond.selects "java/lang/StringBuilder" yJ5_getValue_6d5f1 yJ5_getValue_6d5f1 ∈ lw_use := (lw_use_in (u5 (List.mem_of_getElem? (i := 108) rfl)) rfl)
theorem eJ5_length_8abf5 : Cond.selects "java/lang/StringBuilder" yJ5_length_8abf5 yJ4_length_8abf5 ∈ lw_use := (lw_use_in (u5 (List.mem_of_getElem? (i := 113) rfl)) rfl)
theorem zJ5_isLatin1_aae02 : Cond.sameMethod "java/lang/AbstractStringBuilder" "java/lang/AbstractStringBuilder" "isLatin1" "()Z" ∈ lw_use := (lw_use_in (u5 (List.mem_of_getElem? (i := 26) rfl)) rfl)
theorem zJ5_getValue_6d5f1 : Cond.sameMethod "java/lang/AbstractStringBuilder" "java/lang/AbstractStringBuilder" "getValue" "()[B" ∈ lw_use := (lw_use_in (u5 (List.mem_of_getElem? (i := 107) rfl)) rfl)
theorem zJ5_length_8abf5 : Cond.sameMethod "java/lang/AbstractStringBuilder" "java/lang/AbstractStringBuilder" "length" "()I" ∈ lw_use := (lw_use_in (u5 (List.mem_of_getElem? (i := 112) rfl)) rfl)
theorem zJ5_append_cf1ce : Cond.sameMethod "java/lang/AbstractStringBuilder" "java/lang/AbstractStringBuilder" "append" "(Ljava/lang/String;)Ljava/lang/AbstractStringBuilder;" ∈ lw_use := (lw_use_in (u5 (List.mem_of_getElem? (i := 201) rfl)) rfl)
theorem zJ5_appendNull_278bc : Cond.sameMethod "java/lang/AbstractStringBuilder" "java/lang/AbstractStringBuilder" "appendNull" "()Ljava/lang/AbstractStringBuilder;" ∈ lw_use := (lw_use_in (u5 (List.mem_of_getElem? (i := 202) rfl)) rfl)
theorem zJ5_ensureCapacityInternal_d00df : Cond.sameMethod "java/lang/AbstractStringBuilder" "java/lang/AbstractStringBuilder" "ensureCapacityInternal" "(I)V" ∈ lw_use := (lw_use_in (u5 (List.mem_of_getElem? (i := 203) rfl)) rfl)
theorem zJ5_newCapacity_0f7a4 : Cond.sameMethod "java/lang/AbstractStringBuilder" "java/lang/AbstractStringBuilder" "newCapacity" "(I)I" ∈ lw_use := (lw_use_in (u5 (List.mem_of_getElem? (i := 204) rfl)) rfl)
theorem zJ5_putStringAt_47b60 : Cond.sameMethod "java/lang/AbstractStringBuilder" "java/lang/AbstractStringBuilder" "putStringAt" "(ILjava/lang/String;)V" ∈ lw_use := (lw_use_in (u5 (List.mem_of_getElem? (i := 205) rfl)) rfl)
theorem zJ5_inflateIfNeededFor_a7421 : Cond.sameMethod "java/lang/AbstractStringBuilder" "java/lang/AbstractStringBuilder" "inflateIfNeededFor" "(Ljava/lang/String;)V" ∈ lw_use := (lw_use_in (u5 (List.mem_of_getElem? (i := 206) rfl)) rfl)
theorem zJ5_inflate_da8c8 : Cond.sameMethod "java/lang/AbstractStringBuilder" "java/lang/AbstractStringBuilder" "inflate" "()V" ∈ lw_use := (lw_use_in (u5 (List.mem_of_getElem? (i := 207) rfl)) rfl)
theorem zJ5_append_3fe6f : Cond.sameMethod "java/lang/AbstractStringBuilder" "java/lang/AbstractStringBuilder" "append" "(C)Ljava/lang/AbstractStringBuilder;" ∈ lw_use := (lw_use_in (u5 (List.mem_of_getElem? (i := 208) rfl)) rfl)
theorem zJ5_append_c97b9 : Cond.sameMethod "java/lang/AbstractStringBuilder" "java/lang/AbstractStringBuilder" "append" "(I)Ljava/lang/AbstractStringBuilder;" ∈ lw_use := (lw_use_in (u5 (List.mem_of_getElem? (i := 209) rfl)) rfl)
