/-! ===== words of the JDK's methods (by program) ===== -/
theorem nJ0_length_8abf5 : Cond.instanceMethod yJ0_length_8abf5 ∈ lw_use := (lw_use_in (u4 (List.mem_of_getElem? (i := 131) rfl)) rfl)
theorem nJ0_coder_7d493 : Cond.instanceMethod yJ0_coder_7d493 ∈ lw_use := (lw_use_in (u4 (List.mem_of_getElem? (i := 135) rfl)) rfl)
theorem nJ0_charAt_5068e : Cond.instanceMethod yJ0_charAt_5068e ∈ lw_use := (lw_use_in (u4 (List.mem_of_getElem? (i := 141) rfl)) rfl)
theorem nJ0_isLatin1_aae02 : Cond.instanceMethod yJ0_isLatin1_aae02 ∈ lw_use := (lw_use_in (u4 (List.mem_of_getElem? (i := 145) rfl)) rfl)
theorem nJ4_append_15ec4 : Cond.instanceMethod yJ4_append_15ec4 ∈ lw_use := (lw_use_in (u4 (List.mem_of_getElem? (i := 219) rfl)) rfl)
theorem nJ5_append_cf1ce : Cond.instanceMethod yJ5_append_cf1ce ∈ lw_use := (lw_use_in (u4 (List.mem_of_getElem? (i := 223) rfl)) rfl)
theorem nJ5_appendNull_278bc : Cond.instanceMethod yJ5_appendNull_278bc ∈ lw_use := (lw_use_in (u4 (List.mem_of_getElem? (i := 227) rfl)) rfl)
theorem nJ5_ensureCapacityInternal_d00df : Cond.instanceMethod yJ5_ensureCapacityInternal_d00df ∈ lw_use := (lw_use_in (u4 (List.mem_of_getElem? (i := 231) rfl)) rfl)
theorem nJ5_newCapacity_0f7a4 : Cond.instanceMethod yJ5_newCapacity_0f7a4 ∈ lw_use := (lw_use_in (u4 (List.mem_of_getElem? (i := 235) rfl)) rfl)
theorem nJ5_isLatin1_aae02 : Cond.instanceMethod yJ5_isLatin1_aae02 ∈ lw_use := (lw_use_in (u5 (List.mem_of_getElem? (i := 25) rfl)) rfl)
theorem nJ5_putStringAt_47b60 : Cond.instanceMethod yJ5_putStringAt_47b60 ∈ lw_use := (lw_use_in (u5 (List.mem_of_getElem? (i := 47) rfl)) rfl)
theorem nJ5_inflateIfNeededFor_a7421 : Cond.instanceMethod yJ5_inflateIfNeededFor_a7421 ∈ lw_use := (lw_use_in (u5 (List.mem_of_getElem? (i := 51) rfl)) rfl)
theorem nJ5_inflate_da8c8 : Cond.instanceMethod yJ5_inflate_da8c8 ∈ lw_use := (lw_use_in (u5 (List.mem_of_getElem? (i := 56) rfl)) rfl)
theorem nJ0_getBytes_840e7 : Cond.instanceMethod yJ0_getBytes_840e7 ∈ lw_use := (lw_use_in (u5 (List.mem_of_getElem? (i := 74) rfl)) rfl)
theorem nJ4_append_cf468 : Cond.instanceMethod yJ4_append_cf468 ∈ lw_use := (lw_use_in (u5 (List.mem_of_getElem? (i := 80) rfl)) rfl)
theorem nJ5_append_3fe6f : Cond.instanceMethod yJ5_append_3fe6f ∈ lw_use := (lw_use_in (u5 (List.mem_of_getElem? (i := 84) rfl)) rfl)
theorem nJ4_toString_0e30d : Cond.instanceMethod yJ4_toString_0e30d ∈ lw_use := (lw_use_in (u5 (List.mem_of_getElem? (i := 93) rfl)) rfl)
theorem nJ5_getValue_6d5f1 : Cond.instanceMethod yJ5_getValue_6d5f1 ∈ lw_use := (lw_use_in (u5 (List.mem_of_getElem? (i := 106) rfl)) rfl)
theorem nJ5_length_8abf5 : Cond.instanceMethod yJ5_length_8abf5 ∈ lw_use := (lw_use_in (u5 (List.mem_of_getElem? (i := 111) rfl)) rfl)
theorem nJ4_length_8abf5 : Cond.instanceMethod yJ4_length_8abf5 ∈ lw_use := (lw_use_in (u5 (List.mem_of_getElem? (i := 114) rfl)) rfl)
theorem nJ4_append_bf812 : Cond.instanceMethod yJ4_append_bf812 ∈ lw_use := (lw_use_in (u5 (List.mem_of_getElem? (i := 164) rfl)) rfl)
theorem nJ5_append_c97b9 : Cond.instanceMethod yJ5_append_c97b9 ∈ lw_use := (lw_use_in (u5 (List.mem_of_getElem? (i := 168) rfl)) rfl)
theorem jSuper : Cond.superclass "java/lang/StringBuilder" "java/lang/AbstractStringBuilder" ∈ lw_use := (lw_use_in (u4 (List.mem_of_getElem? (i := 215) rfl)) rfl)
theorem jClone : Cond.sameMethod "[B" "java/lang/Object" "clone" "()Ljava/lang/Object;" ∈ lw_use ∧ Cond.native ⟨"java/lang/Object", "clone", "()Ljava/lang/Object;"⟩ ∈ lw_use ∧ Cond.instanceMethod ⟨"java/lang/Object", "clone", "()Ljava/lang/Object;"⟩ ∈ lw_use ∧ Cond.selects "[B" ⟨"[B", "clone", "()Ljava/lang/Object;"⟩ ⟨"java/lang/Object", "clone", "()Ljava/lang/Object;"⟩ ∈ lw_use := ⟨(lw_use_in (u5 (List.mem_of_getElem? (i := 12) rfl)) rfl), (lw_use_in (u5 (List.mem_of_getElem? (i := 13) rfl)) rfl), (lw_use_in (u5 (List.mem_of_getElem? (i := 14) rfl)) rfl), (lw_use_in (u5 (List.mem_of_getElem? (i := 15) rfl)) rfl)⟩
theorem eJ5_ensureCapacityInternal_d00df : Cond.selects "java/lang/StringBuilder" yJ5_ensureCapacityInternal_d00df yJ5_ensureCapacityInternal_d00df ∈ lw_use := lw_use_x (by decide +kernel) rfl
theorem eJ5_newCapacity_0f7a4 : Cond.selects "java/lang/StringBuilder" yJ5_newCapacity_0f7a4 yJ5_newCapacity_0f7a4 ∈ lw_use := lw_use_x (by decide +kernel) rfl
theorem eJ5_inflateIfNeededFor_a7421 : Cond.selects "java/lang/StringBuilder" yJ5_inflateIfNeededFor_a7421 yJ5_inflateIfNeededFor_a7421 ∈ lw_use := lw_use_x (by decide +kernel) rfl
theorem eJ5_putStringAt_47b60 : Cond.selects "java/lang/StringBuilder" yJ5_putStringAt_47b60 yJ5_putStringAt_47b60 ∈ lw_use := lw_use_x (by decide +kernel) rfl
