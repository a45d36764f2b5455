/-! WORDS OF THE TEXTS (laid by wip/whole/mktext.py) -/
theorem zfj_RJ5_15 : Cond.fieldLink RJ5 15 (TJ4 0).1 (TJ4 0).2.1 (TJ4 0).2.2.1 ∈ zAll := zg (z_t1 (List.mem_of_getElem? (i := 187) (by decide +kernel))) (by decide +kernel)
theorem zfs_RJ5_18 : Cond.fieldLink RJ5 18 "java/lang/String" "COMPACT_STRINGS" "Z" ∈ zAll := zg (z_t1 (List.mem_of_getElem? (i := 178) (by decide +kernel))) (by decide +kernel)
theorem zfj_RJ5_22 : Cond.fieldLink RJ5 22 (TJ4 1).1 (TJ4 1).2.1 (TJ4 1).2.2.1 ∈ zAll := zg (z_t1 (List.mem_of_getElem? (i := 188) (by decide +kernel))) (by decide +kernel)
theorem zfj_RJ5_73 : Cond.fieldLink RJ5 73 (TJ4 2).1 (TJ4 2).2.1 (TJ4 2).2.2.1 ∈ zAll := zg (z_t1 (List.mem_of_getElem? (i := 189) (by decide +kernel))) (by decide +kernel)
theorem zfj_RJ5_79 : Cond.fieldLink RJ5 79 (TJ4 3).1 (TJ4 3).2.1 (TJ4 3).2.2.1 ∈ zAll := zg (z_t1 (List.mem_of_getElem? (i := 191) (by decide +kernel))) (by decide +kernel)
theorem zfs_RJ0_9 : Cond.fieldLink RJ0 9 "java/lang/String" "value" "[B" ∈ zAll := zg (z_t5 (List.mem_of_getElem? (i := 221) (by decide +kernel))) (by decide +kernel)
theorem zfs_RJ0_15 : Cond.fieldLink RJ0 15 "java/lang/String" "coder" "B" ∈ zAll := zg (z_t5 (List.mem_of_getElem? (i := 222) (by decide +kernel))) (by decide +kernel)
theorem zfs_RJ0_38 : Cond.fieldLink RJ0 38 "java/lang/String" "COMPACT_STRINGS" "Z" ∈ zAll := zg (z_t5 (List.mem_of_getElem? (i := 105) (by decide +kernel))) (by decide +kernel)
theorem zfj_RJ0_1048 : Cond.fieldLink RJ0 1048 (TJ4 2).1 (TJ4 2).2.1 (TJ4 2).2.2.1 ∈ zAll := zg (z_t1 (List.mem_of_getElem? (i := 190) (by decide +kernel))) (by decide +kernel)
theorem zfs_RJ0_1053 : Cond.fieldLink RJ0 1053 "jdk/internal/util/Preconditions" "SIOOBE_FORMATTER" "Ljava/util/function/BiFunction;" ∈ zAll := zg (z_t5 (List.mem_of_getElem? (i := 83) (by decide +kernel))) (by decide +kernel)
theorem zfs_RJ6_83 : Cond.fieldLink RJ6 83 "java/lang/Integer" "DigitOnes" "[B" ∈ zAll := zg (z_t5 (List.mem_of_getElem? (i := 153) (by decide +kernel))) (by decide +kernel)
theorem zfs_RJ6_87 : Cond.fieldLink RJ6 87 "java/lang/Integer" "DigitTens" "[B" ∈ zAll := zg (z_t5 (List.mem_of_getElem? (i := 155) (by decide +kernel))) (by decide +kernel)
theorem zar_byte : Cond.arrayClass .byte ∈ zAll := zg (z_t1 (List.mem_of_getElem? (i := 201) (by decide +kernel))) (by decide +kernel)
theorem zin4 : Cond.instantiable RJ4 4 ∈ zAll := zg (z_t1 (List.mem_of_getElem? (i := 170) (by decide +kernel))) (by decide +kernel)
theorem zsel4 : Cond.selects RJ4 yJ5_isLatin1_aae02 yJ5_isLatin1_aae02 ∈ zAll := zg (z_t5 (List.mem_of_getElem? (i := 69) (by decide +kernel))) (by decide +kernel)
theorem zim4 : Cond.instanceMethod yJ5_isLatin1_aae02 ∈ zAll := zg (z_t5 (List.mem_of_getElem? (i := 67) (by decide +kernel))) (by decide +kernel)
theorem zcu_RJ5_100 : zCalU RJ5 100 yJ5_ensureCapacityInternal_d00df cJ5_ensureCapacityInternal_d00df 3 none 1 := ⟨⟨zg (z_t5 (List.mem_of_getElem? (i := 37) (by decide +kernel))) (by decide +kernel), zg (z_t8 (List.mem_of_getElem? (i := 207) (by decide +kernel))) (by decide +kernel), zg (z_t5 (List.mem_of_getElem? (i := 39) (by decide +kernel))) (by decide +kernel), zg (z_t1 (List.mem_of_getElem? (i := 8) (by decide +kernel))) (by decide +kernel)⟩, zg (z_t5 (List.mem_of_getElem? (i := 40) (by decide +kernel))) (by decide +kernel), by decide +kernel⟩
theorem zcu_RJ5_104 : zCalU RJ5 104 yJ5_newCapacity_0f7a4 cJ5_newCapacity_0f7a4 6 (some .int) 1 := ⟨⟨zg (z_t5 (List.mem_of_getElem? (i := 41) (by decide +kernel))) (by decide +kernel), zg (z_t8 (List.mem_of_getElem? (i := 208) (by decide +kernel))) (by decide +kernel), zg (z_t5 (List.mem_of_getElem? (i := 43) (by decide +kernel))) (by decide +kernel), zg (z_t1 (List.mem_of_getElem? (i := 8) (by decide +kernel))) (by decide +kernel)⟩, zg (z_t5 (List.mem_of_getElem? (i := 44) (by decide +kernel))) (by decide +kernel), by decide +kernel⟩
theorem zcu_RJ5_195 : zCalU RJ5 195 yJ5_inflate_da8c8 cJ5_inflate_da8c8 2 none 0 := ⟨⟨zg (z_t5 (List.mem_of_getElem? (i := 115) (by decide +kernel))) (by decide +kernel), zg (z_t8 (List.mem_of_getElem? (i := 211) (by decide +kernel))) (by decide +kernel), zg (z_t5 (List.mem_of_getElem? (i := 117) (by decide +kernel))) (by decide +kernel), zg (z_t1 (List.mem_of_getElem? (i := 8) (by decide +kernel))) (by decide +kernel)⟩, zg (z_t5 (List.mem_of_getElem? (i := 118) (by decide +kernel))) (by decide +kernel), by decide +kernel⟩
theorem zcu_RJ5_204 : zCalU RJ5 204 yJ5_appendNull_278bc cJ5_appendNull_278bc 3 (some (.object "java/lang/AbstractStringBuilder")) 0 := ⟨⟨zg (z_t5 (List.mem_of_getElem? (i := 33) (by decide +kernel))) (by decide +kernel), zg (z_t8 (List.mem_of_getElem? (i := 206) (by decide +kernel))) (by decide +kernel), zg (z_t5 (List.mem_of_getElem? (i := 35) (by decide +kernel))) (by decide +kernel), zg (z_t1 (List.mem_of_getElem? (i := 8) (by decide +kernel))) (by decide +kernel)⟩, zg (z_t5 (List.mem_of_getElem? (i := 36) (by decide +kernel))) (by decide +kernel), by decide +kernel⟩
theorem zcu_RJ5_208 : zCalU RJ5 208 yJ5_putStringAt_47b60 cJ5_putStringAt_47b60 3 none 2 := ⟨⟨zg (z_t5 (List.mem_of_getElem? (i := 106) (by decide +kernel))) (by decide +kernel), zg (z_t8 (List.mem_of_getElem? (i := 209) (by decide +kernel))) (by decide +kernel), zg (z_t5 (List.mem_of_getElem? (i := 108) (by decide +kernel))) (by decide +kernel), zg (z_t1 (List.mem_of_getElem? (i := 8) (by decide +kernel))) (by decide +kernel)⟩, zg (z_t5 (List.mem_of_getElem? (i := 109) (by decide +kernel))) (by decide +kernel), by decide +kernel⟩
theorem zcu_RJ5_397 : zCalU RJ5 397 yJ5_inflateIfNeededFor_a7421 cJ5_inflateIfNeededFor_a7421 2 none 1 := ⟨⟨zg (z_t5 (List.mem_of_getElem? (i := 110) (by decide +kernel))) (by decide +kernel), zg (z_t8 (List.mem_of_getElem? (i := 210) (by decide +kernel))) (by decide +kernel), zg (z_t5 (List.mem_of_getElem? (i := 112) (by decide +kernel))) (by decide +kernel), zg (z_t1 (List.mem_of_getElem? (i := 8) (by decide +kernel))) (by decide +kernel)⟩, zg (z_t5 (List.mem_of_getElem? (i := 113) (by decide +kernel))) (by decide +kernel), by decide +kernel⟩
theorem zcu_RJ5_83 : zCalU RJ5 83 yJ5_isLatin1_aae02 cJ5_isLatin1_aae02 1 (some .boolean) 0 := ⟨⟨zg (z_t5 (List.mem_of_getElem? (i := 66) (by decide +kernel))) (by decide +kernel), zg (z_t5 (List.mem_of_getElem? (i := 68) (by decide +kernel))) (by decide +kernel), zg (z_t5 (List.mem_of_getElem? (i := 67) (by decide +kernel))) (by decide +kernel), zg (z_t1 (List.mem_of_getElem? (i := 8) (by decide +kernel))) (by decide +kernel)⟩, zg (z_t5 (List.mem_of_getElem? (i := 70) (by decide +kernel))) (by decide +kernel), by decide +kernel⟩
theorem zcsu_RJ4_29 : zCalSU RJ4 29 yJ5_append_cf1ce cJ5_append_cf1ce 3 (some (.object "java/lang/AbstractStringBuilder")) 1 := by
  refine ⟨?_, zg (z_t5 (List.mem_of_getElem? (i := 32) (by decide +kernel))) (by decide +kernel), by decide +kernel⟩
  intro w hw
  simp only [List.mem_cons, List.not_mem_nil, or_false] at hw
  rcases hw with rfl | rfl | rfl | rfl | rfl
  · exact zg (z_t5 (List.mem_of_getElem? (i := 30) (by decide +kernel))) (by decide +kernel)
  · exact zg (z_t8 (List.mem_of_getElem? (i := 205) (by decide +kernel))) (by decide +kernel)
  · exact zg (z_t1 (List.mem_of_getElem? (i := 200) (by decide +kernel))) (by decide +kernel)
  · exact zg (z_t5 (List.mem_of_getElem? (i := 31) (by decide +kernel))) (by decide +kernel)
  · exact zg (z_t1 (List.mem_of_getElem? (i := 8) (by decide +kernel))) (by decide +kernel)
theorem zcsu_RJ4_329 : zCalSU RJ4 329 yJ5_charAt_5068e cJ5_charAt_5068e 5 (some .char) 1 := by
  refine ⟨?_, zg (z_t6 (List.mem_of_getElem? (i := 70) (by decide +kernel))) (by decide +kernel), by decide +kernel⟩
  intro w hw
  simp only [List.mem_cons, List.not_mem_nil, or_false] at hw
  rcases hw with rfl | rfl | rfl | rfl | rfl
  · exact zg (z_t6 (List.mem_of_getElem? (i := 68) (by decide +kernel))) (by decide +kernel)
  · exact zg (z_t8 (List.mem_of_getElem? (i := 215) (by decide +kernel))) (by decide +kernel)
  · exact zg (z_t1 (List.mem_of_getElem? (i := 200) (by decide +kernel))) (by decide +kernel)
  · exact zg (z_t6 (List.mem_of_getElem? (i := 69) (by decide +kernel))) (by decide +kernel)
  · exact zg (z_t1 (List.mem_of_getElem? (i := 8) (by decide +kernel))) (by decide +kernel)
theorem zcsu_RJ4_333 : zCalSU RJ4 333 yJ5_setLength_d00df cJ5_setLength_d00df 2 none 1 := by
  refine ⟨?_, zg (z_t5 (List.mem_of_getElem? (i := 17) (by decide +kernel))) (by decide +kernel), by decide +kernel⟩
  intro w hw
  simp only [List.mem_cons, List.not_mem_nil, or_false] at hw
  rcases hw with rfl | rfl | rfl | rfl | rfl
  · exact zg (z_t5 (List.mem_of_getElem? (i := 15) (by decide +kernel))) (by decide +kernel)
  · exact zg (z_t8 (List.mem_of_getElem? (i := 204) (by decide +kernel))) (by decide +kernel)
  · exact zg (z_t1 (List.mem_of_getElem? (i := 200) (by decide +kernel))) (by decide +kernel)
  · exact zg (z_t5 (List.mem_of_getElem? (i := 16) (by decide +kernel))) (by decide +kernel)
  · exact zg (z_t1 (List.mem_of_getElem? (i := 8) (by decide +kernel))) (by decide +kernel)
theorem zcsu_RJ4_343 : zCalSU RJ4 343 yJ5_length_8abf5 cJ5_length_8abf5 1 (some .int) 0 := by
  refine ⟨?_, zg (z_t5 (List.mem_of_getElem? (i := 189) (by decide +kernel))) (by decide +kernel), by decide +kernel⟩
  intro w hw
  simp only [List.mem_cons, List.not_mem_nil, or_false] at hw
  rcases hw with rfl | rfl | rfl | rfl | rfl
  · exact zg (z_t5 (List.mem_of_getElem? (i := 188) (by decide +kernel))) (by decide +kernel)
  · exact zg (z_t5 (List.mem_of_getElem? (i := 184) (by decide +kernel))) (by decide +kernel)
  · exact zg (z_t1 (List.mem_of_getElem? (i := 200) (by decide +kernel))) (by decide +kernel)
  · exact zg (z_t5 (List.mem_of_getElem? (i := 183) (by decide +kernel))) (by decide +kernel)
  · exact zg (z_t1 (List.mem_of_getElem? (i := 8) (by decide +kernel))) (by decide +kernel)
theorem zcsu_RJ4_50 : zCalSU RJ4 50 yJ5_append_3fe6f cJ5_append_3fe6f 2 (some (.object "java/lang/AbstractStringBuilder")) 1 := by
  refine ⟨?_, zg (z_t6 (List.mem_of_getElem? (i := 38) (by decide +kernel))) (by decide +kernel), by decide +kernel⟩
  intro w hw
  simp only [List.mem_cons, List.not_mem_nil, or_false] at hw
  rcases hw with rfl | rfl | rfl | rfl | rfl
  · exact zg (z_t6 (List.mem_of_getElem? (i := 36) (by decide +kernel))) (by decide +kernel)
  · exact zg (z_t8 (List.mem_of_getElem? (i := 213) (by decide +kernel))) (by decide +kernel)
  · exact zg (z_t1 (List.mem_of_getElem? (i := 200) (by decide +kernel))) (by decide +kernel)
  · exact zg (z_t6 (List.mem_of_getElem? (i := 37) (by decide +kernel))) (by decide +kernel)
  · exact zg (z_t1 (List.mem_of_getElem? (i := 8) (by decide +kernel))) (by decide +kernel)
theorem zcsu_RJ4_53 : zCalSU RJ4 53 yJ5_append_c97b9 cJ5_append_c97b9 4 (some (.object "java/lang/AbstractStringBuilder")) 1 := by
  refine ⟨?_, zg (z_t5 (List.mem_of_getElem? (i := 146) (by decide +kernel))) (by decide +kernel), by decide +kernel⟩
  intro w hw
  simp only [List.mem_cons, List.not_mem_nil, or_false] at hw
  rcases hw with rfl | rfl | rfl | rfl | rfl
  · exact zg (z_t5 (List.mem_of_getElem? (i := 144) (by decide +kernel))) (by decide +kernel)
  · exact zg (z_t8 (List.mem_of_getElem? (i := 212) (by decide +kernel))) (by decide +kernel)
  · exact zg (z_t1 (List.mem_of_getElem? (i := 200) (by decide +kernel))) (by decide +kernel)
  · exact zg (z_t5 (List.mem_of_getElem? (i := 145) (by decide +kernel))) (by decide +kernel)
  · exact zg (z_t1 (List.mem_of_getElem? (i := 8) (by decide +kernel))) (by decide +kernel)
theorem zcs_J7_copyOf_9075b : zCalS yJ7_copyOf_9075b cJ7_copyOf_9075b 3 (some (.array .byte)) 2 := ⟨zg (z_t5 (List.mem_of_getElem? (i := 55) (by decide +kernel))) (by decide +kernel), zg (z_t1 (List.mem_of_getElem? (i := 28) (by decide +kernel))) (by decide +kernel), zg (z_t5 (List.mem_of_getElem? (i := 56) (by decide +kernel))) (by decide +kernel), by decide +kernel⟩
theorem zcv_J4_append_cf468 : zCalV RJ4 yJ4_append_cf468 cJ4_append_cf468 2 (some (.object "java/lang/StringBuilder")) 1 := ⟨zg (z_t6 (List.mem_of_getElem? (i := 33) (by decide +kernel))) (by decide +kernel), zg (z_t6 (List.mem_of_getElem? (i := 34) (by decide +kernel))) (by decide +kernel), zg (z_t1 (List.mem_of_getElem? (i := 9) (by decide +kernel))) (by decide +kernel), zg (z_t6 (List.mem_of_getElem? (i := 35) (by decide +kernel))) (by decide +kernel), by decide +kernel⟩
theorem zcv_J4_append_15ec4 : zCalV RJ4 yJ4_append_15ec4 cJ4_append_15ec4 2 (some (.object "java/lang/StringBuilder")) 1 := ⟨zg (z_t5 (List.mem_of_getElem? (i := 27) (by decide +kernel))) (by decide +kernel), zg (z_t5 (List.mem_of_getElem? (i := 28) (by decide +kernel))) (by decide +kernel), zg (z_t1 (List.mem_of_getElem? (i := 9) (by decide +kernel))) (by decide +kernel), zg (z_t5 (List.mem_of_getElem? (i := 29) (by decide +kernel))) (by decide +kernel), by decide +kernel⟩
theorem zcv_J4_append_bf812 : zCalV RJ4 yJ4_append_bf812 cJ4_append_bf812 2 (some (.object "java/lang/StringBuilder")) 1 := ⟨zg (z_t5 (List.mem_of_getElem? (i := 141) (by decide +kernel))) (by decide +kernel), zg (z_t5 (List.mem_of_getElem? (i := 142) (by decide +kernel))) (by decide +kernel), zg (z_t1 (List.mem_of_getElem? (i := 9) (by decide +kernel))) (by decide +kernel), zg (z_t5 (List.mem_of_getElem? (i := 143) (by decide +kernel))) (by decide +kernel), by decide +kernel⟩
/-- the private methods of a builder, as they are selected -/
def zSelW : List Cond := [.selects RJ4 yJ5_ensureCapacityInternal_d00df yJ5_ensureCapacityInternal_d00df, .selects RJ4 yJ5_newCapacity_0f7a4 yJ5_newCapacity_0f7a4, .selects RJ4 yJ5_inflateIfNeededFor_a7421 yJ5_inflateIfNeededFor_a7421, .selects RJ4 yJ5_putStringAt_47b60 yJ5_putStringAt_47b60]
theorem zSelW_good : GoodIn zSelW zSelW := fun w hw => ⟨hw, good_of_word (List.all_eq_true.mp (show zSelW.all goodWord = true from by decide +kernel) w hw)⟩
theorem zselE {s : State} (h : ∀ w ∈ zSelW, w.before #[] s = true) {w : Cond} (hw : w ∈ zSelW) (args : Array Value) : w.before args s = true := pay_in h zSelW_good w hw args s (State.WarmedH.refl s)
/-- what stands outside of the worlds: the JDK's statics that texts read -/
def zEn : zEV := fun A U H => va_Z "java/lang/String" "COMPACT_STRINGS" "Z" (.int 1) A U H ∧ (∃ t, va_Z "java/lang/Integer" "DigitOnes" "[B" (.ref t) A U H ∧ va_T .byte t 100 (fun j => .int (nI (48 + j % 10))) A U H) ∧ (∃ t, va_Z "java/lang/Integer" "DigitTens" "[B" (.ref t) A U H ∧ va_T .byte t 100 (fun j => .int (nI (48 + j / 10))) A U H) ∧ va_Zq "jdk/internal/util/Preconditions" "SIOOBE_FORMATTER" "Ljava/util/function/BiFunction;" A U H ∧ ∀ w ∈ zSelW, w.before #[] U = true
theorem zEn_mv {A : Nat → Prop} {u U : State} {H : Heap} (hW : u.WarmedH U.vm) (h : zEn A u H) : zEn A U H := by
  obtain ⟨h1, ⟨t, h2, h3⟩, ⟨t2, h4, h5⟩, h6, h7⟩ := h
  have hv := hW.alike
  exact ⟨va_Z.moved hv h1, ⟨t, va_Z.moved hv h2, va_T.moved hv h3⟩, ⟨t2, va_Z.moved hv h4, va_T.moved hv h5⟩, va_Zq.moved hv h6, fun w hw => pay_in h7 zSelW_good w hw #[] U hW⟩
theorem zEn_ge : zGE zEn := by
  refine ⟨fun A s U H hW h => zEn_mv hW h, ?_, ?_, fun A u U H hv h => zEn_mv (by rw [hv]; exact State.WarmedH.refl u) h⟩
  · rintro A U H H1 ⟨h1, ⟨t, h2, h3⟩, ⟨t2, h4, h5⟩, h6, h7⟩ hq
    exact ⟨h1.kept hq, ⟨t, h2.kept hq, h3.kept hq⟩, ⟨t2, h4.kept hq, h5.kept hq⟩, h6.kept hq, h7⟩
  · rintro A B U H ⟨h1, ⟨t, h2, h3⟩, ⟨t2, h4, h5⟩, h6, h7⟩ hq
    exact ⟨h1.narrow hq, ⟨t, h2.narrow hq, h3.narrow hq⟩, ⟨t2, h4.narrow hq, h5.narrow hq⟩, h6.narrow hq, h7⟩
/-- the String constant at a, with the bytes l -/
def zS (a : Nat) (l : List Int32) : zEV := fun A U H => ∃ v, vk_S 1 [l.length] [l] (fun _ => a) (fun _ => v) A U H
theorem zS_ge (a : Nat) (l : List Int32) : zGE (zS a l) :=
  ⟨fun A s U H hW ⟨v, h⟩ => ⟨v, vk_S.moved hW.alike h⟩, fun A U H H1 ⟨v, h⟩ hq => ⟨v, h.kept hq⟩, fun A B U H ⟨v, h⟩ hq => ⟨v, h.narrow hq⟩, fun A u U H hv ⟨v, h⟩ => ⟨v, vk_S.moved (by rw [hv]; exact Vm.Alike.refl _) h⟩⟩
abbrev zES (a : Nat) (l : List Int32) : zEV := fun A U H => zEn A U H ∧ zS a l A U H
theorem zES_ge (a : Nat) (l : List Int32) : zGE (zES a l) := zEn_ge.and (zS_ge a l)
/-- a StringBuilder of Latin-1 letters at q: its bytes f in the array v of n places, k of them in use -/
abbrev tB (cy : Nat → ClassId) (q v n : Nat) (z : Int32) (k : Nat) (f : Nat → Int32) : va_W := [(q, .inr (1, [.ref v, .int 0, .int z, .int (nI k)])), (v, .inl (cy 2, n, .inl f))]
abbrev zrt (d mc ms : Nat) : Room := { frames := d + 6, cells := mc, slots := ms, locals := 60 * d + 200 }
theorem zrec_S {s : State} {A : Nat → Prop} {D : va_G} {ws : va_W} {a : Nat} {l : List Int32} (h : zS a l A s s.heap) : zRec s A D ws a RJ0 := by
  intro H locs hP hS
  obtain ⟨v, h⟩ := h
  exact vk_recv (i := 0) h (by decide) hS
