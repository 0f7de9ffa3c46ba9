/-! THE WORDS: the good ones of the tables, one list for all methods; each by its place -/
def gTs : List Cond := lw_tbl.filter goodWord
theorem gTs_good : gTs.all goodWord = true := List.all_eq_true.mpr fun _ h => (List.mem_filter.mp h).2
theorem gTs_self : GoodIn gTs gTs := fun _ h => ⟨h, good_of_word (List.mem_filter.mp h).2⟩
theorem gTs_in : ∀ w ∈ gTs, w ∈ lw_tbl := fun _ h => (List.mem_filter.mp h).1
theorem gm1 {w : Cond} {i : Nat} (h : tables_1_1[i]? = some w) (g : goodWord w = true) : w ∈ gTs := by
  have h0 : w ∈ tables_1_1 := List.mem_of_getElem? h
  have h1 : w ∈ tables_1 := List.mem_append_left _ h0
  exact List.mem_filter.mpr ⟨List.mem_append_right _ h1, g⟩
theorem gt1 {w : Cond} {i : Nat} (h : tables_1_1[i]? = some w) : w ∈ lw_tbl := by
  have h0 : w ∈ tables_1_1 := List.mem_of_getElem? h
  have h1 : w ∈ tables_1 := List.mem_append_left _ h0
  exact List.mem_append_right _ h1
theorem gm2 {w : Cond} {i : Nat} (h : tables_1_2[i]? = some w) (g : goodWord w = true) : w ∈ gTs := by
  have h0 : w ∈ tables_1_2 := List.mem_of_getElem? h
  have h1 : w ∈ tables_1 := List.mem_append_right _ (List.mem_append_left _ h0)
  exact List.mem_filter.mpr ⟨List.mem_append_right _ h1, g⟩
theorem gt2 {w : Cond} {i : Nat} (h : tables_1_2[i]? = some w) : w ∈ lw_tbl := by
  have h0 : w ∈ tables_1_2 := List.mem_of_getElem? h
  have h1 : w ∈ tables_1 := List.mem_append_right _ (List.mem_append_left _ h0)
  exact List.mem_append_right _ h1
theorem gm3 {w : Cond} {i : Nat} (h : tables_1_3[i]? = some w) (g : goodWord w = true) : w ∈ gTs := by
  have h0 : w ∈ tables_1_3 := List.mem_of_getElem? h
  have h1 : w ∈ tables_1 := List.mem_append_right _ (List.mem_append_right _ (List.mem_append_left _ h0))
  exact List.mem_filter.mpr ⟨List.mem_append_right _ h1, g⟩
theorem gt3 {w : Cond} {i : Nat} (h : tables_1_3[i]? = some w) : w ∈ lw_tbl := by
  have h0 : w ∈ tables_1_3 := List.mem_of_getElem? h
  have h1 : w ∈ tables_1 := List.mem_append_right _ (List.mem_append_right _ (List.mem_append_left _ h0))
  exact List.mem_append_right _ h1
theorem gm4 {w : Cond} {i : Nat} (h : tables_1_4[i]? = some w) (g : goodWord w = true) : w ∈ gTs := by
  have h0 : w ∈ tables_1_4 := List.mem_of_getElem? h
  have h1 : w ∈ tables_1 := List.mem_append_right _ (List.mem_append_right _ (List.mem_append_right _ (List.mem_append_left _ h0)))
  exact List.mem_filter.mpr ⟨List.mem_append_right _ h1, g⟩
theorem gt4 {w : Cond} {i : Nat} (h : tables_1_4[i]? = some w) : w ∈ lw_tbl := by
  have h0 : w ∈ tables_1_4 := List.mem_of_getElem? h
  have h1 : w ∈ tables_1 := List.mem_append_right _ (List.mem_append_right _ (List.mem_append_right _ (List.mem_append_left _ h0)))
  exact List.mem_append_right _ h1
theorem gm5 {w : Cond} {i : Nat} (h : tables_1_5[i]? = some w) (g : goodWord w = true) : w ∈ gTs := by
  have h0 : w ∈ tables_1_5 := List.mem_of_getElem? h
  have h1 : w ∈ tables_1 := List.mem_append_right _ (List.mem_append_right _ (List.mem_append_right _ (List.mem_append_right _ (List.mem_append_left _ h0))))
  exact List.mem_filter.mpr ⟨List.mem_append_right _ h1, g⟩
theorem gt5 {w : Cond} {i : Nat} (h : tables_1_5[i]? = some w) : w ∈ lw_tbl := by
  have h0 : w ∈ tables_1_5 := List.mem_of_getElem? h
  have h1 : w ∈ tables_1 := List.mem_append_right _ (List.mem_append_right _ (List.mem_append_right _ (List.mem_append_right _ (List.mem_append_left _ h0))))
  exact List.mem_append_right _ h1
theorem gm6 {w : Cond} {i : Nat} (h : tables_1_6[i]? = some w) (g : goodWord w = true) : w ∈ gTs := by
  have h0 : w ∈ tables_1_6 := List.mem_of_getElem? h
  have h1 : w ∈ tables_1 := List.mem_append_right _ (List.mem_append_right _ (List.mem_append_right _ (List.mem_append_right _ (List.mem_append_right _ (h0)))))
  exact List.mem_filter.mpr ⟨List.mem_append_right _ h1, g⟩
theorem gt6 {w : Cond} {i : Nat} (h : tables_1_6[i]? = some w) : w ∈ lw_tbl := by
  have h0 : w ∈ tables_1_6 := List.mem_of_getElem? h
  have h1 : w ∈ tables_1 := List.mem_append_right _ (List.mem_append_right _ (List.mem_append_right _ (List.mem_append_right _ (List.mem_append_right _ (h0)))))
  exact List.mem_append_right _ h1
theorem gp1 {y : MethodName} {i n : Nat} (h : lw_privs_1[i]? = some (y, n)) (g : goodWord (Cond.selects y.cls y y) = true) : Cond.selects y.cls y y ∈ gTs := by
  have h0 : (y, n) ∈ lw_privs_1 := List.mem_of_getElem? h
  have h1 : (y, n) ∈ lw_privs := List.mem_append_left _ h0
  exact List.mem_filter.mpr ⟨List.mem_append_left _ (List.mem_map.mpr ⟨(y, n), h1, rfl⟩), g⟩
theorem gp2 {y : MethodName} {i n : Nat} (h : lw_privs_2[i]? = some (y, n)) (g : goodWord (Cond.selects y.cls y y) = true) : Cond.selects y.cls y y ∈ gTs := by
  have h0 : (y, n) ∈ lw_privs_2 := List.mem_of_getElem? h
  have h1 : (y, n) ∈ lw_privs := List.mem_append_right _ (List.mem_append_left _ h0)
  exact List.mem_filter.mpr ⟨List.mem_append_left _ (List.mem_map.mpr ⟨(y, n), h1, rfl⟩), g⟩
theorem gp3 {y : MethodName} {i n : Nat} (h : lw_privs_3[i]? = some (y, n)) (g : goodWord (Cond.selects y.cls y y) = true) : Cond.selects y.cls y y ∈ gTs := by
  have h0 : (y, n) ∈ lw_privs_3 := List.mem_of_getElem? h
  have h1 : (y, n) ∈ lw_privs := List.mem_append_right _ (List.mem_append_right _ (List.mem_append_left _ h0))
  exact List.mem_filter.mpr ⟨List.mem_append_left _ (List.mem_map.mpr ⟨(y, n), h1, rfl⟩), g⟩
theorem gp4 {y : MethodName} {i n : Nat} (h : lw_privs_4[i]? = some (y, n)) (g : goodWord (Cond.selects y.cls y y) = true) : Cond.selects y.cls y y ∈ gTs := by
  have h0 : (y, n) ∈ lw_privs_4 := List.mem_of_getElem? h
  have h1 : (y, n) ∈ lw_privs := List.mem_append_right _ (List.mem_append_right _ (List.mem_append_right _ (List.mem_append_left _ h0)))
  exact List.mem_filter.mpr ⟨List.mem_append_left _ (List.mem_map.mpr ⟨(y, n), h1, rfl⟩), g⟩
theorem gp5 {y : MethodName} {i n : Nat} (h : lw_privs_5[i]? = some (y, n)) (g : goodWord (Cond.selects y.cls y y) = true) : Cond.selects y.cls y y ∈ gTs := by
  have h0 : (y, n) ∈ lw_privs_5 := List.mem_of_getElem? h
  have h1 : (y, n) ∈ lw_privs := List.mem_append_right _ (List.mem_append_right _ (List.mem_append_right _ (List.mem_append_right _ (h0))))
  exact List.mem_filter.mpr ⟨List.mem_append_left _ (List.mem_map.mpr ⟨(y, n), h1, rfl⟩), g⟩
theorem xl_L_8 : Cond.classLink RL 8 RX4 ∈ gTs := (gm1 (i := 27) (by decide +kernel) rfl)
theorem ml_L_96 : Cond.methodLink RL 96 yX4_init ∈ gTs := (gm1 (i := 29) (by decide +kernel) rfl)
theorem ml_X4_1 : Cond.methodLink RX4 1 ⟨"java/lang/Object", "<init>", "()V"⟩ ∈ gTs := (gm1 (i := 32) (by decide +kernel) rfl)
theorem xl_X4_9 : Cond.classLink RX4 9 RX0 ∈ gTs := (gm1 (i := 35) (by decide +kernel) rfl)
theorem ml_X0_3 : Cond.methodLink RX0 3 ⟨"java/lang/Object", "<init>", "()V"⟩ ∈ gTs := (gm1 (i := 41) (by decide +kernel) rfl)
theorem fl_X0_9 : Cond.fieldLink RX0 9 RX0 "front" "J" ∈ gTs := (gm1 (i := 42) (by decide +kernel) rfl)
theorem fl_X0_15 : Cond.fieldLink RX0 15 RX0 "back" "J" ∈ gTs := (gm1 (i := 44) (by decide +kernel) rfl)
theorem fl_X0_18 : Cond.fieldLink RX0 18 RX0 "lies" "I" ∈ gTs := (gm1 (i := 46) (by decide +kernel) rfl)
theorem xl_X4_16 : Cond.classLink RX4 16 RX3 ∈ gTs := (gm1 (i := 55) (by decide +kernel) rfl)
theorem ml_X3_3 : Cond.methodLink RX3 3 ⟨"java/lang/Object", "<init>", "()V"⟩ ∈ gTs := (gm1 (i := 60) (by decide +kernel) rfl)
theorem fl_X3_9 : Cond.fieldLink RX3 9 RX3 "known" "J" ∈ gTs := (gm1 (i := 61) (by decide +kernel) rfl)
theorem fl_X3_15 : Cond.fieldLink RX3 15 RX3 "ones" "J" ∈ gTs := (gm1 (i := 63) (by decide +kernel) rfl)
theorem xl_X4_26 : Cond.classLink RX4 26 RX1 ∈ gTs := (gm1 (i := 70) (by decide +kernel) rfl)
theorem ml_X1_3 : Cond.methodLink RX1 3 ⟨"java/lang/Object", "<init>", "()V"⟩ ∈ gTs := (gm1 (i := 75) (by decide +kernel) rfl)
theorem xl_X1_9 : Cond.classLink RX1 9 RX0 ∈ gTs := (gm1 (i := 76) (by decide +kernel) rfl)
theorem fl_X1_11 : Cond.fieldLink RX1 11 RX1 "saved" "[LMirrorCards$Card;" ∈ gTs := (gm1 (i := 78) (by decide +kernel) rfl)
theorem fl_X1_18 : Cond.fieldLink RX1 18 RX1 "kept" "I" ∈ gTs := (gm1 (i := 79) (by decide +kernel) rfl)
theorem xl_X4_33 : Cond.classLink RX4 33 RX2 ∈ gTs := (gm1 (i := 86) (by decide +kernel) rfl)
theorem ml_X2_3 : Cond.methodLink RX2 3 ⟨"java/lang/Object", "<init>", "()V"⟩ ∈ gTs := (gm1 (i := 91) (by decide +kernel) rfl)
theorem fl_X2_11 : Cond.fieldLink RX2 11 RX2 "step" "I" ∈ gTs := (gm1 (i := 92) (by decide +kernel) rfl)
theorem fl_X2_39 : Cond.fieldLink RX2 39 RX2 "letter" "C" ∈ gTs := (gm1 (i := 93) (by decide +kernel) rfl)
theorem fl_X2_43 : Cond.fieldLink RX2 43 RX2 "inBack" "Z" ∈ gTs := (gm1 (i := 95) (by decide +kernel) rfl)
theorem fl_X2_51 : Cond.fieldLink RX2 51 RX2 "row" "I" ∈ gTs := (gm1 (i := 97) (by decide +kernel) rfl)
theorem fl_X2_54 : Cond.fieldLink RX2 54 RX2 "column" "I" ∈ gTs := (gm1 (i := 99) (by decide +kernel) rfl)
theorem fl_X2_57 : Cond.fieldLink RX2 57 RX2 "number" "I" ∈ gTs := (gm1 (i := 101) (by decide +kernel) rfl)
theorem xl_X4_40 : Cond.classLink RX4 40 RJ4 ∈ gTs := (gm1 (i := 116) (by decide +kernel) rfl)
theorem ml_X4_42 : Cond.methodLink RX4 42 yJ4_init_da8c8 ∈ gTs := (gm1 (i := 118) (by decide +kernel) rfl)
theorem ml_J4_1 : Cond.methodLink RJ4 1 yJ5_init_d00df ∈ gTs := (gm1 (i := 121) (by decide +kernel) rfl)
theorem ml_J5_3 : Cond.methodLink RJ5 3 ⟨"java/lang/Object", "<init>", "()V"⟩ ∈ gTs := (gm1 (i := 124) (by decide +kernel) rfl)
theorem fl_J5_18 : Cond.fieldLink RJ5 18 RJ0 "COMPACT_STRINGS" "Z" ∈ gTs := (gm1 (i := 125) (by decide +kernel) rfl)
theorem ml_J5_26 : Cond.methodLink RJ5 26 yJ2_newBytesFor_77867 ∈ gTs := (gm1 (i := 127) (by decide +kernel) rfl)
theorem ml_J2_11 : Cond.methodLink RJ2 11 yJ2_newBytesLength_0f7a4 ∈ gTs := (gm1 (i := 130) (by decide +kernel) rfl)
theorem ki_J2_20 : Cond.constant RJ2 20 (1073741823) ∈ gTs := (gm1 (i := 133) (by decide +kernel) rfl)
theorem fl_J5_15 : Cond.fieldLink RJ5 15 RJ5 "value" "[B" ∈ gTs := (gm1 (i := 134) (by decide +kernel) rfl)
theorem fl_J5_22 : Cond.fieldLink RJ5 22 RJ5 "coder" "B" ∈ gTs := (gm1 (i := 135) (by decide +kernel) rfl)
theorem fl_J5_73 : Cond.fieldLink RJ5 73 RJ5 "maybeLatin1" "Z" ∈ gTs := (gm1 (i := 136) (by decide +kernel) rfl)
theorem fl_J0_1048 : Cond.fieldLink RJ0 1048 RJ5 "maybeLatin1" "Z" ∈ gTs := (gm1 (i := 137) (by decide +kernel) rfl)
theorem fl_J5_79 : Cond.fieldLink RJ5 79 RJ5 "count" "I" ∈ gTs := (gm1 (i := 138) (by decide +kernel) rfl)
theorem fl_X4_11 : Cond.fieldLink RX4 11 RX4 "cards" "[LMirrorCards$Card;" ∈ gTs := (gm1 (i := 149) (by decide +kernel) rfl)
theorem fl_X4_19 : Cond.fieldLink RX4 19 RX4 "telling" "LMirrorCards$Telling;" ∈ gTs := (gm1 (i := 150) (by decide +kernel) rfl)
theorem fl_X4_23 : Cond.fieldLink RX4 23 RX4 "forecast" "LMirrorCards$Telling;" ∈ gTs := (gm1 (i := 151) (by decide +kernel) rfl)
theorem fl_X4_29 : Cond.fieldLink RX4 29 RX4 "history" "LMirrorCards$History;" ∈ gTs := (gm1 (i := 152) (by decide +kernel) rfl)
theorem fl_X4_36 : Cond.fieldLink RX4 36 RX4 "reader" "LMirrorCards$PartReader;" ∈ gTs := (gm1 (i := 153) (by decide +kernel) rfl)
theorem fl_X4_43 : Cond.fieldLink RX4 43 RX4 "text" "Ljava/lang/StringBuilder;" ∈ gTs := (gm1 (i := 154) (by decide +kernel) rfl)
theorem ml_L_178 : Cond.methodLink RL 178 yX4_clearText ∈ gTs := (gm1 (i := 168) (by decide +kernel) rfl)
theorem ml_X4_212 : Cond.methodLink RX4 212 yJ4_length_8abf5 ∈ gTs := (gm1 (i := 172) (by decide +kernel) rfl)
theorem ml_J4_343 : Cond.methodLink RJ4 343 yJ5_length_8abf5 ∈ gTs := (gm1 (i := 176) (by decide +kernel) rfl)
theorem ml_X4_221 : Cond.methodLink RX4 221 yJ4_setLength_d00df ∈ gTs := (gm1 (i := 179) (by decide +kernel) rfl)
theorem ml_J4_333 : Cond.methodLink RJ4 333 yJ5_setLength_d00df ∈ gTs := (gm1 (i := 183) (by decide +kernel) rfl)
theorem xl_J5_129 : Cond.classLink RJ5 129 RJx7c733 ∈ gTs := (gm1 (i := 186) (by decide +kernel) rfl)
theorem ml_J5_131 : Cond.methodLink RJ5 131 yJx7c733_init_d00df ∈ gTs := (gm1 (i := 188) (by decide +kernel) rfl)
theorem xl_Jx7c733_10 : Cond.classLink RJx7c733 10 RJ4 ∈ gTs := (gm1 (i := 191) (by decide +kernel) rfl)
theorem ml_Jx7c733_12 : Cond.methodLink RJx7c733 12 yJ4_init_da8c8 ∈ gTs := (gm1 (i := 192) (by decide +kernel) rfl)
theorem ml_Jx7c733_15 : Cond.methodLink RJx7c733 15 yJ4_append_15ec4 ∈ gTs := (gm1 (i := 194) (by decide +kernel) rfl)
theorem ml_J4_29 : Cond.methodLink RJ4 29 yJ5_append_cf1ce ∈ gTs := (gm1 (i := 198) (by decide +kernel) rfl)
theorem ml_J5_204 : Cond.methodLink RJ5 204 yJ5_appendNull_278bc ∈ gTs := (gm1 (i := 201) (by decide +kernel) rfl)
theorem ml_J5_100 : Cond.methodLink RJ5 100 yJ5_ensureCapacityInternal_d00df ∈ gTs := (gm1 (i := 205) (by decide +kernel) rfl)
theorem ml_J5_104 : Cond.methodLink RJ5 104 yJ5_newCapacity_0f7a4 ∈ gTs := (gm1 (i := 209) (by decide +kernel) rfl)
theorem ml_J5_114 : Cond.methodLink RJ5 114 yJ8_newLength_cabcc ∈ gTs := (gm1 (i := 213) (by decide +kernel) rfl)
theorem ml_J8_194 : Cond.methodLink RJ8 194 yJ9_max_7cf53 ∈ gTs := (gm1 (i := 216) (by decide +kernel) rfl)
theorem ki_J8_200 : Cond.constant RJ8 200 (2147483639) ∈ gTs := (gm1 (i := 219) (by decide +kernel) rfl)
theorem ml_J8_201 : Cond.methodLink RJ8 201 yJ8_hugeLength_7cf53 ∈ gTs := (gm1 (i := 220) (by decide +kernel) rfl)
theorem ki_J5_39 : Cond.constant RJ5 39 (2147483647) ∈ gTs := (gm1 (i := 223) (by decide +kernel) rfl)
theorem ml_J5_108 : Cond.methodLink RJ5 108 yJ7_copyOf_9075b ∈ gTs := (gm1 (i := 224) (by decide +kernel) rfl)
theorem ml_J7_310 : Cond.methodLink RJ7 310 ⟨"[B", "clone", "()Ljava/lang/Object;"⟩ ∈ gTs := (gm1 (i := 227) (by decide +kernel) rfl)
theorem xl_J7_311 : Cond.classLink RJ7 311 "[B" ∈ gTs := (gm1 (i := 233) (by decide +kernel) rfl)
theorem ml_J7_304 : Cond.methodLink RJ7 304 yJ9_min_7cf53 ∈ gTs := (gm1 (i := 234) (by decide +kernel) rfl)
theorem ml_J7_150 : Cond.methodLink RJ7 150 ⟨"java/lang/System", "arraycopy", "(Ljava/lang/Object;ILjava/lang/Object;II)V"⟩ ∈ gTs := (gm1 (i := 237) (by decide +kernel) rfl)
theorem ml_J5_83 : Cond.methodLink RJ5 83 yJ5_isLatin1_aae02 ∈ gTs := (gm2 (i := 0) (by decide +kernel) rfl)
theorem ml_J5_226 : Cond.methodLink RJ5 226 yJ2_putCharsAt_cd4e5 ∈ gTs := (gm2 (i := 5) (by decide +kernel) rfl)
theorem ml_J2_96 : Cond.methodLink RJ2 96 yJ2_checkBoundsBeginEnd_d044e ∈ gTs := (gm2 (i := 8) (by decide +kernel) rfl)
theorem ml_J2_48 : Cond.methodLink RJ2 48 yJ2_length_9d52b ∈ gTs := (gm2 (i := 11) (by decide +kernel) rfl)
theorem ml_J2_241 : Cond.methodLink RJ2 241 yJ0_checkBoundsBeginEnd_23922 ∈ gTs := (gm2 (i := 14) (by decide +kernel) rfl)
theorem fl_J0_1053 : Cond.fieldLink RJ0 1053 RJ3 "SIOOBE_FORMATTER" "Ljava/util/function/BiFunction;" ∈ gTs := (gm2 (i := 17) (by decide +kernel) rfl)
theorem ml_J0_1062 : Cond.methodLink RJ0 1062 yJ3_checkFromToIndex_8c36e ∈ gTs := (gm2 (i := 19) (by decide +kernel) rfl)
theorem ml_J2_111 : Cond.methodLink RJ2 111 yJ2_putChar_b72d1 ∈ gTs := (gm2 (i := 22) (by decide +kernel) rfl)
theorem fl_J2_44 : Cond.fieldLink RJ2 44 RJ2 "$assertionsDisabled" "Z" ∈ gTs := (gm2 (i := 25) (by decide +kernel) rfl)
theorem fl_J2_59 : Cond.fieldLink RJ2 59 RJ2 "HI_BYTE_SHIFT" "I" ∈ gTs := (gm2 (i := 27) (by decide +kernel) rfl)
theorem fl_J2_63 : Cond.fieldLink RJ2 63 RJ2 "LO_BYTE_SHIFT" "I" ∈ gTs := (gm2 (i := 29) (by decide +kernel) rfl)
theorem ml_J5_32 : Cond.methodLink RJ5 32 yJ0_length_8abf5 ∈ gTs := (gm2 (i := 31) (by decide +kernel) rfl)
theorem ml_J0_335 : Cond.methodLink RJ0 335 yJ0_coder_7d493 ∈ gTs := (gm2 (i := 35) (by decide +kernel) rfl)
theorem fl_J0_38 : Cond.fieldLink RJ0 38 RJ0 "COMPACT_STRINGS" "Z" ∈ gTs := (gm2 (i := 39) (by decide +kernel) rfl)
theorem ml_J5_208 : Cond.methodLink RJ5 208 yJ5_putStringAt_47b60 ∈ gTs := (gm2 (i := 40) (by decide +kernel) rfl)
theorem ml_J5_397 : Cond.methodLink RJ5 397 yJ5_inflateIfNeededFor_a7421 ∈ gTs := (gm2 (i := 44) (by decide +kernel) rfl)
theorem ml_J5_40 : Cond.methodLink RJ5 40 yJ0_coder_7d493 ∈ gTs := (gm2 (i := 48) (by decide +kernel) rfl)
theorem ml_J5_195 : Cond.methodLink RJ5 195 yJ5_inflate_da8c8 ∈ gTs := (gm2 (i := 49) (by decide +kernel) rfl)
theorem ml_J5_125 : Cond.methodLink RJ5 125 yJ1_inflate_0e8fd ∈ gTs := (gm2 (i := 53) (by decide +kernel) rfl)
theorem ml_J1_240 : Cond.methodLink RJ1 240 yJ2_inflate_0e8fd ∈ gTs := (gm2 (i := 56) (by decide +kernel) rfl)
theorem ml_J2_173 : Cond.methodLink RJ2 173 yJ2_checkBoundsOffCount_d044e ∈ gTs := (gm2 (i := 59) (by decide +kernel) rfl)
theorem ml_J2_419 : Cond.methodLink RJ2 419 yJ0_checkBoundsOffCount_cabcc ∈ gTs := (gm2 (i := 62) (by decide +kernel) rfl)
theorem ml_J0_1065 : Cond.methodLink RJ0 1065 yJ3_checkFromIndexSize_8c36e ∈ gTs := (gm2 (i := 65) (by decide +kernel) rfl)
theorem ml_J5_399 : Cond.methodLink RJ5 399 yJ0_getBytes_840e7 ∈ gTs := (gm2 (i := 68) (by decide +kernel) rfl)
theorem ml_J0_212 : Cond.methodLink RJ0 212 ⟨"java/lang/System", "arraycopy", "(Ljava/lang/Object;ILjava/lang/Object;II)V"⟩ ∈ gTs := (gm2 (i := 72) (by decide +kernel) rfl)
theorem ml_J0_106 : Cond.methodLink RJ0 106 yJ1_inflate_0e8fd ∈ gTs := (gm2 (i := 73) (by decide +kernel) rfl)
theorem ml_Jx7c733_19 : Cond.methodLink RJx7c733 19 yJ4_append_bf812 ∈ gTs := (gm2 (i := 74) (by decide +kernel) rfl)
theorem ml_J4_53 : Cond.methodLink RJ4 53 yJ5_append_c97b9 ∈ gTs := (gm2 (i := 78) (by decide +kernel) rfl)
theorem ml_J5_245 : Cond.methodLink RJ5 245 yJ6_stringSize_0f7a4 ∈ gTs := (gm2 (i := 81) (by decide +kernel) rfl)
theorem ml_J5_248 : Cond.methodLink RJ5 248 yJ6_getChars_ba4f3 ∈ gTs := (gm2 (i := 84) (by decide +kernel) rfl)
theorem fl_J6_83 : Cond.fieldLink RJ6 83 RJ6 "DigitOnes" "[B" ∈ gTs := (gm2 (i := 87) (by decide +kernel) rfl)
theorem fl_J6_87 : Cond.fieldLink RJ6 87 RJ6 "DigitTens" "[B" ∈ gTs := (gm2 (i := 89) (by decide +kernel) rfl)
theorem ml_J5_251 : Cond.methodLink RJ5 251 yJ2_getChars_46870 ∈ gTs := (gm2 (i := 91) (by decide +kernel) rfl)
theorem ml_J2_393 : Cond.methodLink RJ2 393 yJ2_getChars_ba4f3 ∈ gTs := (gm2 (i := 94) (by decide +kernel) rfl)
theorem fl_J2_403 : Cond.fieldLink RJ2 403 RJ6 "DigitOnes" "[B" ∈ gTs := (gm2 (i := 97) (by decide +kernel) rfl)
theorem fl_J2_407 : Cond.fieldLink RJ2 407 RJ6 "DigitTens" "[B" ∈ gTs := (gm2 (i := 98) (by decide +kernel) rfl)
theorem ml_Jx7c733_22 : Cond.methodLink RJx7c733 22 yJ4_toString_0e30d ∈ gTs := (gm2 (i := 99) (by decide +kernel) rfl)
theorem xl_J4_18 : Cond.classLink RJ4 18 RJ0 ∈ gTs := (gm2 (i := 103) (by decide +kernel) rfl)
theorem ml_J4_137 : Cond.methodLink RJ4 137 yJ0_init_81219 ∈ gTs := (gm2 (i := 105) (by decide +kernel) rfl)
theorem ml_J0_489 : Cond.methodLink RJ0 489 yJ0_init_db425 ∈ gTs := (gm2 (i := 108) (by decide +kernel) rfl)
theorem ml_J0_1 : Cond.methodLink RJ0 1 ⟨"java/lang/Object", "<init>", "()V"⟩ ∈ gTs := (gm2 (i := 111) (by decide +kernel) rfl)
theorem ml_J0_552 : Cond.methodLink RJ0 552 yJ5_getValue_6d5f1 ∈ gTs := (gm2 (i := 112) (by decide +kernel) rfl)
theorem ml_J0_549 : Cond.methodLink RJ0 549 yJ5_length_8abf5 ∈ gTs := (gm2 (i := 117) (by decide +kernel) rfl)
theorem ml_J0_1047 : Cond.methodLink RJ0 1047 yJ5_isLatin1_aae02 ∈ gTs := (gm2 (i := 118) (by decide +kernel) rfl)
theorem ml_J0_54 : Cond.methodLink RJ0 54 yJ7_copyOfRange_39247 ∈ gTs := (gm2 (i := 119) (by decide +kernel) rfl)
theorem ml_J7_339 : Cond.methodLink RJ7 339 yJ7_copyOfRangeByte_39247 ∈ gTs := (gm2 (i := 122) (by decide +kernel) rfl)
theorem ml_J7_343 : Cond.methodLink RJ7 343 yJ7_checkLength_df160 ∈ gTs := (gm2 (i := 125) (by decide +kernel) rfl)
theorem xl_J7_43 : Cond.classLink RJ7 43 "java/lang/IllegalArgumentException" ∈ gTs := (gm2 (i := 128) (by decide +kernel) rfl)
theorem xl_J7_45 : Cond.classLink RJ7 45 RJ4 ∈ gTs := (gm2 (i := 171) (by decide +kernel) rfl)
theorem ml_J7_47 : Cond.methodLink RJ7 47 yJ4_init_da8c8 ∈ gTs := (gm2 (i := 172) (by decide +kernel) rfl)
theorem ml_J7_54 : Cond.methodLink RJ7 54 yJ4_append_bf812 ∈ gTs := (gm2 (i := 173) (by decide +kernel) rfl)
theorem ml_J7_50 : Cond.methodLink RJ7 50 yJ4_append_15ec4 ∈ gTs := (gm2 (i := 175) (by decide +kernel) rfl)
theorem ml_J7_61 : Cond.methodLink RJ7 61 yJ4_toString_0e30d ∈ gTs := (gm2 (i := 176) (by decide +kernel) rfl)
theorem ml_J7_65 : Cond.methodLink RJ7 65 ⟨"java/lang/IllegalArgumentException", "<init>", "(Ljava/lang/String;)V"⟩ ∈ gTs := (gm2 (i := 177) (by decide +kernel) rfl)
theorem ml_J0_1051 : Cond.methodLink RJ0 1051 yJ2_compress_39247 ∈ gTs := (gm2 (i := 202) (by decide +kernel) rfl)
theorem ml_J2_123 : Cond.methodLink RJ2 123 yJ2_compress_5af95 ∈ gTs := (gm2 (i := 205) (by decide +kernel) rfl)
theorem ml_J2_71 : Cond.methodLink RJ2 71 yJ2_getChar_3b067 ∈ gTs := (gm2 (i := 208) (by decide +kernel) rfl)
theorem ml_J2_126 : Cond.methodLink RJ2 126 yJ7_copyOfRange_39247 ∈ gTs := (gm2 (i := 211) (by decide +kernel) rfl)
theorem ml_J0_47 : Cond.methodLink RJ0 47 yJ2_coderFromArrayLen_85cad ∈ gTs := (gm2 (i := 212) (by decide +kernel) rfl)
theorem fl_J0_9 : Cond.fieldLink RJ0 9 RJ0 "value" "[B" ∈ gTs := (gm2 (i := 215) (by decide +kernel) rfl)
theorem fl_J0_15 : Cond.fieldLink RJ0 15 RJ0 "coder" "B" ∈ gTs := (gm2 (i := 216) (by decide +kernel) rfl)
theorem ml_Jx7c733_7 : Cond.methodLink RJx7c733 7 ⟨"java/lang/IndexOutOfBoundsException", "<init>", "(Ljava/lang/String;)V"⟩ ∈ gTs := (gm2 (i := 226) (by decide +kernel) rfl)
theorem ml_J5_133 : Cond.methodLink RJ5 133 yJ1_fillNull_b72d1 ∈ gTs := (gm2 (i := 237) (by decide +kernel) rfl)
theorem ml_J1_236 : Cond.methodLink RJ1 236 yJ7_fill_eb02e ∈ gTs := (gm3 (i := 0) (by decide +kernel) rfl)
theorem ml_J7_13 : Cond.methodLink RJ7 13 yJ7_rangeCheck_23922 ∈ gTs := (gm3 (i := 3) (by decide +kernel) rfl)
theorem xl_J7_68 : Cond.classLink RJ7 68 RJx00060 ∈ gTs := (gm3 (i := 9) (by decide +kernel) rfl)
theorem ml_J7_70 : Cond.methodLink RJ7 70 yJx00060_init_d00df ∈ gTs := (gm3 (i := 20) (by decide +kernel) rfl)
theorem xl_Jx00060_10 : Cond.classLink RJx00060 10 RJ4 ∈ gTs := (gm3 (i := 23) (by decide +kernel) rfl)
theorem ml_Jx00060_12 : Cond.methodLink RJx00060 12 yJ4_init_da8c8 ∈ gTs := (gm3 (i := 24) (by decide +kernel) rfl)
theorem ml_Jx00060_15 : Cond.methodLink RJx00060 15 yJ4_append_15ec4 ∈ gTs := (gm3 (i := 26) (by decide +kernel) rfl)
theorem ml_Jx00060_19 : Cond.methodLink RJx00060 19 yJ4_append_bf812 ∈ gTs := (gm3 (i := 27) (by decide +kernel) rfl)
theorem ml_Jx00060_22 : Cond.methodLink RJx00060 22 yJ4_toString_0e30d ∈ gTs := (gm3 (i := 28) (by decide +kernel) rfl)
theorem ml_Jx00060_7 : Cond.methodLink RJx00060 7 ⟨"java/lang/IndexOutOfBoundsException", "<init>", "(Ljava/lang/String;)V"⟩ ∈ gTs := (gm3 (i := 29) (by decide +kernel) rfl)
theorem ml_J5_137 : Cond.methodLink RJ5 137 yJ2_fillNull_b72d1 ∈ gTs := (gm3 (i := 32) (by decide +kernel) rfl)
theorem ml_J2_380 : Cond.methodLink RJ2 380 yJ7_fill_eb02e ∈ gTs := (gm3 (i := 35) (by decide +kernel) rfl)
theorem ml_L_182 : Cond.methodLink RL 182 yX4_firstError ∈ gTs := (gm3 (i := 36) (by decide +kernel) rfl)
theorem ml_X4_224 : Cond.methodLink RX4 224 yX4_readText ∈ gTs := (gm3 (i := 40) (by decide +kernel) rfl)
theorem ml_X4_284 : Cond.methodLink RX4 284 yJ4_charAt_5068e ∈ gTs := (gm3 (i := 48) (by decide +kernel) rfl)
theorem ml_J4_329 : Cond.methodLink RJ4 329 yJ5_charAt_5068e ∈ gTs := (gm3 (i := 52) (by decide +kernel) rfl)
theorem ml_J5_138 : Cond.methodLink RJ5 138 yJ9_min_7cf53 ∈ gTs := (gm3 (i := 55) (by decide +kernel) rfl)
theorem ml_J5_144 : Cond.methodLink RJ5 144 yJ0_checkIndex_df160 ∈ gTs := (gm3 (i := 56) (by decide +kernel) rfl)
theorem ml_J0_1059 : Cond.methodLink RJ0 1059 yJ3_checkIndex_8e157 ∈ gTs := (gm3 (i := 59) (by decide +kernel) rfl)
theorem ml_J5_148 : Cond.methodLink RJ5 148 yJ2_getChar_3b067 ∈ gTs := (gm3 (i := 62) (by decide +kernel) rfl)
theorem ml_X2_15 : Cond.methodLink RX2 15 yX2_takesLetter ∈ gTs := (gm3 (i := 67) (by decide +kernel) rfl)
theorem ml_X2_19 : Cond.methodLink RX2 19 yX2_takesFace ∈ gTs := (gm3 (i := 71) (by decide +kernel) rfl)
theorem ml_X2_22 : Cond.methodLink RX2 22 yX2_takesRow ∈ gTs := (gm3 (i := 75) (by decide +kernel) rfl)
theorem ml_X2_47 : Cond.methodLink RX2 47 yX2_digitUpTo ∈ gTs := (gm3 (i := 79) (by decide +kernel) rfl)
theorem ml_X2_25 : Cond.methodLink RX2 25 yX2_takesColumn ∈ gTs := (gm3 (i := 82) (by decide +kernel) rfl)
theorem ml_X2_28 : Cond.methodLink RX2 28 yX2_takesSign ∈ gTs := (gm3 (i := 86) (by decide +kernel) rfl)
theorem ml_X2_32 : Cond.methodLink RX2 32 yX2_takesNumber ∈ gTs := (gm3 (i := 90) (by decide +kernel) rfl)
theorem ml_X2_36 : Cond.methodLink RX2 36 yX2_takesMoreOfValue ∈ gTs := (gm3 (i := 94) (by decide +kernel) rfl)
theorem ml_L_193 : Cond.methodLink RL 193 yX4_savedStates ∈ gTs := (gm3 (i := 98) (by decide +kernel) rfl)
theorem ml_L_197 : Cond.methodLink RL 197 yX4_digest ∈ gTs := (gm3 (i := 102) (by decide +kernel) rfl)
theorem kl_X4_244 : Cond.constantLong RX4 244 (4876) ∈ gTs := (gm3 (i := 106) (by decide +kernel) rfl)
theorem ml_X4_107 : Cond.methodLink RX4 107 yX4_tellingOf ∈ gTs := (gm3 (i := 107) (by decide +kernel) rfl)
theorem kl_X0_22 : Cond.constantLong RX0 22 (-1) ∈ gTs := (gm3 (i := 119) (by decide +kernel) rfl)
theorem kl_X4_273 : Cond.constantLong RX4 273 (255) ∈ gTs := (gm3 (i := 127) (by decide +kernel) rfl)
theorem ml_X3_22 : Cond.methodLink RX3 22 yX3_tellLastOf ∈ gTs := (gm3 (i := 128) (by decide +kernel) rfl)
theorem kl_X3_29 : Cond.constantLong RX3 29 (-1) ∈ gTs := (gm3 (i := 132) (by decide +kernel) rfl)
theorem ml_X3_31 : Cond.methodLink RX3 31 yJ13_bitCount_95d88 ∈ gTs := (gm3 (i := 133) (by decide +kernel) rfl)
theorem kl_J13_314 : Cond.constantLong RJ13 314 (6148914691236517205) ∈ gTs := (gm3 (i := 136) (by decide +kernel) rfl)
theorem kl_J13_316 : Cond.constantLong RJ13 316 (3689348814741910323) ∈ gTs := (gm3 (i := 137) (by decide +kernel) rfl)
theorem kl_J13_318 : Cond.constantLong RJ13 318 (1085102592571150095) ∈ gTs := (gm3 (i := 138) (by decide +kernel) rfl)
theorem ml_X4_93 : Cond.methodLink RX4 93 yJ13_bitCount_95d88 ∈ gTs := (gm3 (i := 142) (by decide +kernel) rfl)
theorem kl_X4_275 : Cond.constantLong RX4 275 (72340172838076673) ∈ gTs := (gm3 (i := 146) (by decide +kernel) rfl)
theorem ml_X4_246 : Cond.methodLink RX4 246 yX4_mixed ∈ gTs := (gm3 (i := 147) (by decide +kernel) rfl)
theorem kl_X4_261 : Cond.constantLong RX4 261 (31) ∈ gTs := (gm3 (i := 150) (by decide +kernel) rfl)
theorem ml_X4_250 : Cond.methodLink RX4 250 yX4_mixedWithCounts ∈ gTs := (gm3 (i := 151) (by decide +kernel) rfl)
theorem ml_X0_24 : Cond.methodLink RX0 24 yX0_ones ∈ gTs := (gm3 (i := 158) (by decide +kernel) rfl)
theorem ml_X0_28 : Cond.methodLink RX0 28 yX0_blank ∈ gTs := (gm3 (i := 159) (by decide +kernel) rfl)
theorem ml_X3_45 : Cond.methodLink RX3 45 yX3_disagrees ∈ gTs := (gm3 (i := 171) (by decide +kernel) rfl)
theorem ml_X4_206 : Cond.methodLink RX4 206 yX4_worstCell ∈ gTs := (gm3 (i := 175) (by decide +kernel) rfl)
theorem ml_X4_202 : Cond.methodLink RX4 202 yX4_untoldWithout ∈ gTs := (gm3 (i := 179) (by decide +kernel) rfl)
theorem ml_X4_277 : Cond.methodLink RX4 277 yX4_isIn ∈ gTs := (gm3 (i := 183) (by decide +kernel) rfl)
theorem kl_X4_117 : Cond.constantLong RX4 117 (-1) ∈ gTs := (gm3 (i := 186) (by decide +kernel) rfl)
theorem ml_X4_254 : Cond.methodLink RX4 254 yX4_mixedWithRows ∈ gTs := (gm3 (i := 187) (by decide +kernel) rfl)
theorem ml_X0_83 : Cond.methodLink RX0 83 yX0_showsHole ∈ gTs := (gm3 (i := 194) (by decide +kernel) rfl)
theorem ml_X0_72 : Cond.methodLink RX0 72 yX0_showsBack ∈ gTs := (gm3 (i := 198) (by decide +kernel) rfl)
theorem ml_X0_76 : Cond.methodLink RX0 76 yX0_seenCell ∈ gTs := (gm3 (i := 202) (by decide +kernel) rfl)
theorem ml_X0_79 : Cond.methodLink RX0 79 yX0_hasHole ∈ gTs := (gm3 (i := 209) (by decide +kernel) rfl)
theorem ml_X4_185 : Cond.methodLink RX4 185 yX4_rowValue ∈ gTs := (gm3 (i := 214) (by decide +kernel) rfl)
theorem ml_X4_165 : Cond.methodLink RX4 165 yX4_cellNumber ∈ gTs := (gm3 (i := 217) (by decide +kernel) rfl)
theorem ml_X4_258 : Cond.methodLink RX4 258 yX4_mixedWithCells ∈ gTs := (gm3 (i := 218) (by decide +kernel) rfl)
theorem ml_L_100 : Cond.methodLink RL 100 yL_punch ∈ gTs := (gm3 (i := 230) (by decide +kernel) rfl)
theorem xl_L_13 : Cond.classLink RL 13 "java/lang/IndexOutOfBoundsException" ∈ gTs := (gm3 (i := 233) (by decide +kernel) rfl)
theorem xl_L_15 : Cond.classLink RL 15 "java/lang/IllegalArgumentException" ∈ gTs := (gm3 (i := 234) (by decide +kernel) rfl)
theorem xl_L_17 : Cond.classLink RL 17 "java/lang/IllegalStateException" ∈ gTs := (gm3 (i := 235) (by decide +kernel) rfl)
theorem ml_L_7 : Cond.methodLink RL 7 yX4_punch ∈ gTs := (gm3 (i := 236) (by decide +kernel) rfl)
theorem ml_X4_47 : Cond.methodLink RX4 47 yX4_cardAt ∈ gTs := (gm4 (i := 0) (by decide +kernel) rfl)
theorem xl_X4_171 : Cond.classLink RX4 171 "java/lang/IndexOutOfBoundsException" ∈ gTs := (gm4 (i := 4) (by decide +kernel) rfl)
theorem ml_X4_175 : Cond.methodLink RX4 175 ⟨"java/lang/IndexOutOfBoundsException", "<init>", "(Ljava/lang/String;)V"⟩ ∈ gTs := (gm4 (i := 14) (by decide +kernel) rfl)
theorem ml_X4_51 : Cond.methodLink RX4 51 yX4_requireRowWithValue ∈ gTs := (gm4 (i := 17) (by decide +kernel) rfl)
theorem xl_X4_55 : Cond.classLink RX4 55 "java/lang/IllegalArgumentException" ∈ gTs := (gm4 (i := 21) (by decide +kernel) rfl)
theorem ml_X4_59 : Cond.methodLink RX4 59 ⟨"java/lang/IllegalArgumentException", "<init>", "(Ljava/lang/String;)V"⟩ ∈ gTs := (gm4 (i := 23) (by decide +kernel) rfl)
theorem xl_X4_66 : Cond.classLink RX4 66 "java/lang/IllegalStateException" ∈ gTs := (gm4 (i := 29) (by decide +kernel) rfl)
theorem ml_X4_70 : Cond.methodLink RX4 70 ⟨"java/lang/IllegalStateException", "<init>", "(Ljava/lang/String;)V"⟩ ∈ gTs := (gm4 (i := 39) (by decide +kernel) rfl)
theorem ml_X1_22 : Cond.methodLink RX1 22 yX1_discardOldest ∈ gTs := (gm4 (i := 49) (by decide +kernel) rfl)
theorem ml_X0_47 : Cond.methodLink RX0 47 yX0_punchBit ∈ gTs := (gm4 (i := 61) (by decide +kernel) rfl)
theorem ml_X0_39 : Cond.methodLink RX0 39 yX0_setHole ∈ gTs := (gm4 (i := 65) (by decide +kernel) rfl)
theorem ml_X0_51 : Cond.methodLink RX0 51 yJ6_bitCount_0f7a4 ∈ gTs := (gm4 (i := 69) (by decide +kernel) rfl)
theorem ki_J6_265 : Cond.constant RJ6 265 (1431655765) ∈ gTs := (gm4 (i := 72) (by decide +kernel) rfl)
theorem ki_J6_266 : Cond.constant RJ6 266 (858993459) ∈ gTs := (gm4 (i := 73) (by decide +kernel) rfl)
theorem ki_J6_267 : Cond.constant RJ6 267 (252645135) ∈ gTs := (gm4 (i := 74) (by decide +kernel) rfl)
theorem ml_L_109 : Cond.methodLink RL 109 yL_close ∈ gTs := (gm4 (i := 75) (by decide +kernel) rfl)
theorem ml_L_19 : Cond.methodLink RL 19 yX4_close ∈ gTs := (gm4 (i := 78) (by decide +kernel) rfl)
theorem ml_X0_57 : Cond.methodLink RX0 57 yX0_sound ∈ gTs := (gm4 (i := 86) (by decide +kernel) rfl)
theorem ml_X0_67 : Cond.methodLink RX0 67 yJ13_bitCount_95d88 ∈ gTs := (gm4 (i := 94) (by decide +kernel) rfl)
theorem ml_L_113 : Cond.methodLink RL 113 yL_renew ∈ gTs := (gm4 (i := 95) (by decide +kernel) rfl)
theorem ml_L_23 : Cond.methodLink RL 23 yX4_renew ∈ gTs := (gm4 (i := 98) (by decide +kernel) rfl)
theorem ml_L_116 : Cond.methodLink RL 116 yL_copy ∈ gTs := (gm4 (i := 106) (by decide +kernel) rfl)
theorem ml_L_26 : Cond.methodLink RL 26 yX4_copy ∈ gTs := (gm4 (i := 109) (by decide +kernel) rfl)
theorem ml_L_120 : Cond.methodLink RL 120 yL_wear ∈ gTs := (gm4 (i := 115) (by decide +kernel) rfl)
theorem ml_L_30 : Cond.methodLink RL 30 yX4_wear ∈ gTs := (gm4 (i := 118) (by decide +kernel) rfl)
theorem ml_X4_123 : Cond.methodLink RX4 123 yX4_requireCell ∈ gTs := (gm4 (i := 122) (by decide +kernel) rfl)
theorem ml_X4_159 : Cond.methodLink RX4 159 yX4_requireInSide ∈ gTs := (gm4 (i := 125) (by decide +kernel) rfl)
theorem ml_L_123 : Cond.methodLink RL 123 yL_lose ∈ gTs := (gm4 (i := 134) (by decide +kernel) rfl)
theorem ml_L_33 : Cond.methodLink RL 33 yX4_lose ∈ gTs := (gm4 (i := 137) (by decide +kernel) rfl)
theorem ml_L_126 : Cond.methodLink RL 126 yL_turn ∈ gTs := (gm4 (i := 142) (by decide +kernel) rfl)
theorem ml_L_36 : Cond.methodLink RL 36 yX4_turn ∈ gTs := (gm4 (i := 145) (by decide +kernel) rfl)
theorem ml_L_129 : Cond.methodLink RL 129 yL_view ∈ gTs := (gm4 (i := 150) (by decide +kernel) rfl)
theorem ml_L_39 : Cond.methodLink RL 39 yX4_view ∈ gTs := (gm4 (i := 153) (by decide +kernel) rfl)
theorem ml_L_132 : Cond.methodLink RL 132 yL_sees ∈ gTs := (gm4 (i := 157) (by decide +kernel) rfl)
theorem ml_L_42 : Cond.methodLink RL 42 yX4_sees ∈ gTs := (gm4 (i := 160) (by decide +kernel) rfl)
theorem ml_L_135 : Cond.methodLink RL 135 yL_raw ∈ gTs := (gm4 (i := 165) (by decide +kernel) rfl)
theorem ml_L_46 : Cond.methodLink RL 46 yX4_raw ∈ gTs := (gm4 (i := 168) (by decide +kernel) rfl)
theorem ml_L_138 : Cond.methodLink RL 138 yL_kind ∈ gTs := (gm4 (i := 172) (by decide +kernel) rfl)
theorem ml_L_49 : Cond.methodLink RL 49 yX4_kind ∈ gTs := (gm4 (i := 175) (by decide +kernel) rfl)
theorem ml_L_141 : Cond.methodLink RL 141 yL_told ∈ gTs := (gm4 (i := 179) (by decide +kernel) rfl)
theorem ml_L_52 : Cond.methodLink RL 52 yX4_told ∈ gTs := (gm4 (i := 182) (by decide +kernel) rfl)
theorem ml_L_144 : Cond.methodLink RL 144 yL_count ∈ gTs := (gm4 (i := 186) (by decide +kernel) rfl)
theorem ml_L_55 : Cond.methodLink RL 55 yX4_count ∈ gTs := (gm4 (i := 189) (by decide +kernel) rfl)
theorem ml_L_147 : Cond.methodLink RL 147 yL_read ∈ gTs := (gm4 (i := 194) (by decide +kernel) rfl)
theorem ml_L_58 : Cond.methodLink RL 58 yX4_read ∈ gTs := (gm4 (i := 197) (by decide +kernel) rfl)
theorem ml_L_150 : Cond.methodLink RL 150 yL_value ∈ gTs := (gm4 (i := 201) (by decide +kernel) rfl)
theorem ml_L_61 : Cond.methodLink RL 61 yX4_value ∈ gTs := (gm4 (i := 204) (by decide +kernel) rfl)
theorem ml_L_153 : Cond.methodLink RL 153 yL_untold ∈ gTs := (gm4 (i := 208) (by decide +kernel) rfl)
theorem ml_L_64 : Cond.methodLink RL 64 yX4_untold ∈ gTs := (gm4 (i := 211) (by decide +kernel) rfl)
theorem ml_L_156 : Cond.methodLink RL 156 yL_disagreements ∈ gTs := (gm4 (i := 215) (by decide +kernel) rfl)
theorem ml_L_67 : Cond.methodLink RL 67 yX4_disagreements ∈ gTs := (gm4 (i := 218) (by decide +kernel) rfl)
theorem ml_L_159 : Cond.methodLink RL 159 yL_disagreement ∈ gTs := (gm4 (i := 222) (by decide +kernel) rfl)
theorem ml_L_70 : Cond.methodLink RL 70 yX4_disagreement ∈ gTs := (gm4 (i := 225) (by decide +kernel) rfl)
theorem ml_L_162 : Cond.methodLink RL 162 yL_soundShare ∈ gTs := (gm4 (i := 234) (by decide +kernel) rfl)
theorem ml_L_73 : Cond.methodLink RL 73 yX4_soundShare ∈ gTs := (gm4 (i := 237) (by decide +kernel) rfl)
theorem kd_X4_200 : Cond.constantDouble RX4 200 (4634204016564240384) ∈ gTs := (gm5 (i := 1) (by decide +kernel) rfl)
theorem ml_L_166 : Cond.methodLink RL 166 yL_untoldIf ∈ gTs := (gm5 (i := 2) (by decide +kernel) rfl)
theorem ml_L_77 : Cond.methodLink RL 77 yX4_untoldIf ∈ gTs := (gm5 (i := 5) (by decide +kernel) rfl)
theorem ml_L_169 : Cond.methodLink RL 169 yL_worst ∈ gTs := (gm5 (i := 9) (by decide +kernel) rfl)
theorem ml_L_80 : Cond.methodLink RL 80 yX4_worst ∈ gTs := (gm5 (i := 12) (by decide +kernel) rfl)
theorem ml_L_172 : Cond.methodLink RL 172 yL_difference ∈ gTs := (gm5 (i := 16) (by decide +kernel) rfl)
theorem ml_L_83 : Cond.methodLink RL 83 yX4_difference ∈ gTs := (gm5 (i := 19) (by decide +kernel) rfl)
theorem ml_L_175 : Cond.methodLink RL 175 yL_append ∈ gTs := (gm5 (i := 23) (by decide +kernel) rfl)
theorem ml_L_86 : Cond.methodLink RL 86 yX4_append ∈ gTs := (gm5 (i := 26) (by decide +kernel) rfl)
theorem ml_X4_217 : Cond.methodLink RX4 217 yJ4_append_cf468 ∈ gTs := (gm5 (i := 32) (by decide +kernel) rfl)
theorem ml_J4_50 : Cond.methodLink RJ4 50 yJ5_append_3fe6f ∈ gTs := (gm5 (i := 36) (by decide +kernel) rfl)
theorem ml_J5_191 : Cond.methodLink RJ5 191 yJ1_canEncode_fc78d ∈ gTs := (gm5 (i := 39) (by decide +kernel) rfl)
theorem ml_J5_197 : Cond.methodLink RJ5 197 yJ2_putCharSB_b72d1 ∈ gTs := (gm5 (i := 42) (by decide +kernel) rfl)
theorem ml_J2_67 : Cond.methodLink RJ2 67 yJ2_checkIndex_2214a ∈ gTs := (gm5 (i := 45) (by decide +kernel) rfl)
theorem ml_J2_414 : Cond.methodLink RJ2 414 yJ0_checkIndex_df160 ∈ gTs := (gm5 (i := 48) (by decide +kernel) rfl)
theorem ml_L_186 : Cond.methodLink RL 186 yL_run ∈ gTs := (gm5 (i := 49) (by decide +kernel) rfl)
theorem ml_L_89 : Cond.methodLink RL 89 yX4_run ∈ gTs := (gm5 (i := 52) (by decide +kernel) rfl)
theorem ml_X4_232 : Cond.methodLink RX4 232 yX4_doParts ∈ gTs := (gm5 (i := 61) (by decide +kernel) rfl)
theorem ml_X4_292 : Cond.methodLink RX4 292 yX4_tryPart ∈ gTs := (gm5 (i := 65) (by decide +kernel) rfl)
theorem ml_X4_306 : Cond.methodLink RX4 306 yX4_tryPunching ∈ gTs := (gm5 (i := 69) (by decide +kernel) rfl)
theorem ml_X4_310 : Cond.methodLink RX4 310 yX4_tryClosing ∈ gTs := (gm5 (i := 72) (by decide +kernel) rfl)
theorem ml_X4_313 : Cond.methodLink RX4 313 yX4_tryHole ∈ gTs := (gm5 (i := 75) (by decide +kernel) rfl)
theorem ml_L_190 : Cond.methodLink RL 190 yL_undo ∈ gTs := (gm5 (i := 79) (by decide +kernel) rfl)
theorem ml_L_93 : Cond.methodLink RL 93 yX4_undo ∈ gTs := (gm5 (i := 82) (by decide +kernel) rfl)
theorem xl_L_97 : Cond.classLink RL 97 RX5 ∈ gTs := (gm5 (i := 91) (by decide +kernel) rfl)
theorem ml_L_99 : Cond.methodLink RL 99 yX5_init ∈ gTs := (gm5 (i := 93) (by decide +kernel) rfl)
theorem ml_X5_1 : Cond.methodLink RX5 1 ⟨"java/lang/Object", "<init>", "()V"⟩ ∈ gTs := (gm5 (i := 96) (by decide +kernel) rfl)
theorem ml_X5_19 : Cond.methodLink RX5 19 yX5_blanks ∈ gTs := (gm5 (i := 97) (by decide +kernel) rfl)
theorem ml_X5_31 : Cond.methodLink RX5 31 yX5_lay ∈ gTs := (gm5 (i := 101) (by decide +kernel) rfl)
theorem fl_X5_23 : Cond.fieldLink RX5 23 RX5 "thrown" "I" ∈ gTs := (gm5 (i := 105) (by decide +kernel) rfl)
theorem fl_X5_7 : Cond.fieldLink RX5 7 RX5 "s" "[I" ∈ gTs := (gm5 (i := 106) (by decide +kernel) rfl)
theorem fl_X5_82 : Cond.fieldLink RX5 82 RX5 "saved" "I" ∈ gTs := (gm5 (i := 107) (by decide +kernel) rfl)
theorem fl_X5_13 : Cond.fieldLink RX5 13 RX5 "text" "[I" ∈ gTs := (gm5 (i := 108) (by decide +kernel) rfl)
theorem fl_X5_140 : Cond.fieldLink RX5 140 RX5 "length" "I" ∈ gTs := (gm5 (i := 109) (by decide +kernel) rfl)
theorem fl_X5_143 : Cond.fieldLink RX5 143 RX5 "at" "I" ∈ gTs := (gm5 (i := 110) (by decide +kernel) rfl)
theorem fl_X5_156 : Cond.fieldLink RX5 156 RX5 "letter" "I" ∈ gTs := (gm5 (i := 111) (by decide +kernel) rfl)
theorem fl_X5_169 : Cond.fieldLink RX5 169 RX5 "face" "I" ∈ gTs := (gm5 (i := 112) (by decide +kernel) rfl)
theorem fl_X5_162 : Cond.fieldLink RX5 162 RX5 "first" "I" ∈ gTs := (gm5 (i := 113) (by decide +kernel) rfl)
theorem fl_X5_153 : Cond.fieldLink RX5 153 RX5 "second" "I" ∈ gTs := (gm5 (i := 114) (by decide +kernel) rfl)
theorem fl_X5_16 : Cond.fieldLink RX5 16 RX5 "bits" "[I" ∈ gTs := (gm5 (i := 115) (by decide +kernel) rfl)
theorem fl_X5_183 : Cond.fieldLink RX5 183 RX5 "hash" "J" ∈ gTs := (gm5 (i := 116) (by decide +kernel) rfl)
theorem ml_L_106 : Cond.methodLink RL 106 yX5_thrown ∈ gTs := (gm5 (i := 143) (by decide +kernel) rfl)
theorem ml_L_105 : Cond.methodLink RL 105 yX5_punch ∈ gTs := (gm5 (i := 147) (by decide +kernel) rfl)
theorem ml_X5_89 : Cond.methodLink RX5 89 yX5_isCard ∈ gTs := (gm5 (i := 151) (by decide +kernel) rfl)
theorem ml_X5_27 : Cond.methodLink RX5 27 yX5_in ∈ gTs := (gm5 (i := 154) (by decide +kernel) rfl)
theorem ml_X5_79 : Cond.methodLink RX5 79 yX5_isBlank ∈ gTs := (gm5 (i := 157) (by decide +kernel) rfl)
theorem ml_X5_35 : Cond.methodLink RX5 35 yX5_of ∈ gTs := (gm5 (i := 161) (by decide +kernel) rfl)
theorem ml_X5_92 : Cond.methodLink RX5 92 yX5_holds ∈ gTs := (gm5 (i := 165) (by decide +kernel) rfl)
theorem ml_X5_95 : Cond.methodLink RX5 95 yX5_save ∈ gTs := (gm5 (i := 169) (by decide +kernel) rfl)
theorem ml_X5_85 : Cond.methodLink RX5 85 yX5_copies ∈ gTs := (gm5 (i := 173) (by decide +kernel) rfl)
theorem ml_X5_98 : Cond.methodLink RX5 98 yX5_punches ∈ gTs := (gm5 (i := 177) (by decide +kernel) rfl)
theorem ml_L_112 : Cond.methodLink RL 112 yX5_close ∈ gTs := (gm5 (i := 181) (by decide +kernel) rfl)
theorem ml_X5_101 : Cond.methodLink RX5 101 yX5_canClose ∈ gTs := (gm5 (i := 185) (by decide +kernel) rfl)
theorem ml_X5_66 : Cond.methodLink RX5 66 yX5_isSound ∈ gTs := (gm5 (i := 189) (by decide +kernel) rfl)
theorem ml_X5_104 : Cond.methodLink RX5 104 yX5_closes ∈ gTs := (gm5 (i := 192) (by decide +kernel) rfl)
theorem ml_L_115 : Cond.methodLink RL 115 yX5_renew ∈ gTs := (gm5 (i := 196) (by decide +kernel) rfl)
theorem ml_X5_107 : Cond.methodLink RX5 107 yX5_counted ∈ gTs := (gm5 (i := 200) (by decide +kernel) rfl)
theorem ml_L_119 : Cond.methodLink RL 119 yX5_copy ∈ gTs := (gm5 (i := 204) (by decide +kernel) rfl)
theorem ml_X5_73 : Cond.methodLink RX5 73 yX5_tells ∈ gTs := (gm5 (i := 208) (by decide +kernel) rfl)
theorem ml_X5_70 : Cond.methodLink RX5 70 yX5_tellsLine ∈ gTs := (gm5 (i := 212) (by decide +kernel) rfl)
theorem ml_X5_60 : Cond.methodLink RX5 60 yX5_missing ∈ gTs := (gm5 (i := 216) (by decide +kernel) rfl)
theorem ml_X5_57 : Cond.methodLink RX5 57 yX5_lineCell ∈ gTs := (gm5 (i := 220) (by decide +kernel) rfl)
theorem ml_X5_63 : Cond.methodLink RX5 63 yX5_parity ∈ gTs := (gm5 (i := 223) (by decide +kernel) rfl)
theorem ml_L_122 : Cond.methodLink RL 122 yX5_wear ∈ gTs := (gm5 (i := 227) (by decide +kernel) rfl)
theorem ml_X5_116 : Cond.methodLink RX5 116 yX5_changes ∈ gTs := (gm5 (i := 231) (by decide +kernel) rfl)
theorem ml_X5_110 : Cond.methodLink RX5 110 yX5_isCell ∈ gTs := (gm5 (i := 235) (by decide +kernel) rfl)
theorem ml_X5_54 : Cond.methodLink RX5 54 yX5_isSeen ∈ gTs := (gm5 (i := 238) (by decide +kernel) rfl)
theorem ml_X5_39 : Cond.methodLink RX5 39 yX5_viewOf ∈ gTs := (gm6 (i := 2) (by decide +kernel) rfl)
theorem ml_X5_43 : Cond.methodLink RX5 43 yX5_seenCell ∈ gTs := (gm6 (i := 6) (by decide +kernel) rfl)
theorem ml_X5_47 : Cond.methodLink RX5 47 yX5_faceOf ∈ gTs := (gm6 (i := 9) (by decide +kernel) rfl)
theorem ml_X5_50 : Cond.methodLink RX5 50 yX5_hasHole ∈ gTs := (gm6 (i := 12) (by decide +kernel) rfl)
theorem ml_X5_113 : Cond.methodLink RX5 113 yX5_turned ∈ gTs := (gm6 (i := 15) (by decide +kernel) rfl)
theorem ml_L_125 : Cond.methodLink RL 125 yX5_lose ∈ gTs := (gm6 (i := 18) (by decide +kernel) rfl)
theorem ml_L_128 : Cond.methodLink RL 128 yX5_turn ∈ gTs := (gm6 (i := 22) (by decide +kernel) rfl)
theorem ml_L_131 : Cond.methodLink RL 131 yX5_view ∈ gTs := (gm6 (i := 26) (by decide +kernel) rfl)
theorem ml_L_134 : Cond.methodLink RL 134 yX5_sees ∈ gTs := (gm6 (i := 30) (by decide +kernel) rfl)
theorem ml_L_137 : Cond.methodLink RL 137 yX5_raw ∈ gTs := (gm6 (i := 34) (by decide +kernel) rfl)
theorem ml_X5_120 : Cond.methodLink RX5 120 yX5_rawOf ∈ gTs := (gm6 (i := 38) (by decide +kernel) rfl)
theorem ml_L_140 : Cond.methodLink RL 140 yX5_kind ∈ gTs := (gm6 (i := 42) (by decide +kernel) rfl)
theorem ml_L_143 : Cond.methodLink RL 143 yX5_told ∈ gTs := (gm6 (i := 46) (by decide +kernel) rfl)
theorem ml_L_146 : Cond.methodLink RL 146 yX5_count ∈ gTs := (gm6 (i := 50) (by decide +kernel) rfl)
theorem ml_L_149 : Cond.methodLink RL 149 yX5_read ∈ gTs := (gm6 (i := 54) (by decide +kernel) rfl)
theorem ml_X5_123 : Cond.methodLink RX5 123 yX5_readOf ∈ gTs := (gm6 (i := 58) (by decide +kernel) rfl)
theorem ml_L_152 : Cond.methodLink RL 152 yX5_value ∈ gTs := (gm6 (i := 62) (by decide +kernel) rfl)
theorem ml_X5_126 : Cond.methodLink RX5 126 yX5_toldOf ∈ gTs := (gm6 (i := 66) (by decide +kernel) rfl)
theorem ml_L_155 : Cond.methodLink RL 155 yX5_untold ∈ gTs := (gm6 (i := 70) (by decide +kernel) rfl)
theorem ml_L_158 : Cond.methodLink RL 158 yX5_disagreements ∈ gTs := (gm6 (i := 74) (by decide +kernel) rfl)
theorem ml_X5_129 : Cond.methodLink RX5 129 yX5_disagreeingAll ∈ gTs := (gm6 (i := 78) (by decide +kernel) rfl)
theorem ml_X5_76 : Cond.methodLink RX5 76 yX5_disagreeing ∈ gTs := (gm6 (i := 82) (by decide +kernel) rfl)
theorem ml_L_161 : Cond.methodLink RL 161 yX5_disagreement ∈ gTs := (gm6 (i := 86) (by decide +kernel) rfl)
theorem ml_L_165 : Cond.methodLink RL 165 yX5_soundShare ∈ gTs := (gm6 (i := 90) (by decide +kernel) rfl)
theorem kd_X5_132 : Cond.constantDouble RX5 132 (4634204016564240384) ∈ gTs := (gm6 (i := 94) (by decide +kernel) rfl)
theorem ml_L_168 : Cond.methodLink RL 168 yX5_untoldIf ∈ gTs := (gm6 (i := 95) (by decide +kernel) rfl)
theorem ml_X5_134 : Cond.methodLink RX5 134 yX5_untoldBut ∈ gTs := (gm6 (i := 99) (by decide +kernel) rfl)
theorem ml_L_171 : Cond.methodLink RL 171 yX5_worst ∈ gTs := (gm6 (i := 103) (by decide +kernel) rfl)
theorem ml_X5_137 : Cond.methodLink RX5 137 yX5_worstOf ∈ gTs := (gm6 (i := 107) (by decide +kernel) rfl)
theorem ml_L_174 : Cond.methodLink RL 174 yX5_difference ∈ gTs := (gm6 (i := 111) (by decide +kernel) rfl)
theorem ml_L_177 : Cond.methodLink RL 177 yX5_append ∈ gTs := (gm6 (i := 115) (by decide +kernel) rfl)
theorem ml_L_181 : Cond.methodLink RL 181 yX5_clearText ∈ gTs := (gm6 (i := 119) (by decide +kernel) rfl)
theorem ml_L_185 : Cond.methodLink RL 185 yX5_firstError ∈ gTs := (gm6 (i := 123) (by decide +kernel) rfl)
theorem ml_X5_175 : Cond.methodLink RX5 175 yX5_isWork ∈ gTs := (gm6 (i := 127) (by decide +kernel) rfl)
theorem ml_X5_172 : Cond.methodLink RX5 172 yX5_readsPart ∈ gTs := (gm6 (i := 131) (by decide +kernel) rfl)
theorem ml_X5_146 : Cond.methodLink RX5 146 yX5_sign ∈ gTs := (gm6 (i := 135) (by decide +kernel) rfl)
theorem ml_X5_159 : Cond.methodLink RX5 159 yX5_takes ∈ gTs := (gm6 (i := 139) (by decide +kernel) rfl)
theorem ml_X5_150 : Cond.methodLink RX5 150 yX5_figure ∈ gTs := (gm6 (i := 143) (by decide +kernel) rfl)
theorem ml_X5_165 : Cond.methodLink RX5 165 yX5_readsValue ∈ gTs := (gm6 (i := 147) (by decide +kernel) rfl)
theorem ml_L_189 : Cond.methodLink RL 189 yX5_run ∈ gTs := (gm6 (i := 151) (by decide +kernel) rfl)
theorem ml_X5_178 : Cond.methodLink RX5 178 yX5_isDone ∈ gTs := (gm6 (i := 155) (by decide +kernel) rfl)
theorem ml_L_192 : Cond.methodLink RL 192 yX5_undo ∈ gTs := (gm6 (i := 159) (by decide +kernel) rfl)
theorem ml_L_196 : Cond.methodLink RL 196 yX5_savedStates ∈ gTs := (gm6 (i := 163) (by decide +kernel) rfl)
theorem ml_L_201 : Cond.methodLink RL 201 yX5_digest ∈ gTs := (gm6 (i := 167) (by decide +kernel) rfl)
theorem kl_X5_187 : Cond.constantLong RX5 187 (4876) ∈ gTs := (gm6 (i := 171) (by decide +kernel) rfl)
theorem ml_X5_189 : Cond.methodLink RX5 189 yX5_mix ∈ gTs := (gm6 (i := 172) (by decide +kernel) rfl)
theorem kl_X5_181 : Cond.constantLong RX5 181 (31) ∈ gTs := (gm6 (i := 176) (by decide +kernel) rfl)
def gKV (C : String) (y : MethodName) (cc : ByteArray) (maxL : Nat) (ret : Option FieldType) (n : Nat) : Prop := (Cond.instanceMethod y ∈ gTs ∧ Cond.selects C y y ∈ gTs ∧ Cond.initialized C ∈ gTs ∧ Cond.code y cc maxL ret ∈ gTs) ∧ (y.cls = C ∧ y.cls ≠ "java/lang/invoke/MethodHandle" ∧ y.cls ≠ "java/lang/invoke/VarHandle" ∧ (parseMethodDescriptor y.desc).map (fun d => d.parameters.length) = some n)
def gKS (y : MethodName) (cc : ByteArray) (maxL : Nat) (ret : Option FieldType) (n : Nat) : Prop := (Cond.static y ∈ gTs ∧ Cond.initialized y.cls ∈ gTs ∧ Cond.code y cc maxL ret ∈ gTs) ∧ (y.cls ≠ "java/lang/invoke/MethodHandle" ∧ y.cls ≠ "java/lang/invoke/VarHandle" ∧ (parseMethodDescriptor y.desc).map (fun d => d.parameters.length) = some n)
def gKH (y : MethodName) (cc : ByteArray) (maxL : Nat) (ret : Option FieldType) (hh : List (Nat × Nat × Nat × Nat)) (n : Nat) : Prop := (Cond.static y ∈ gTs ∧ Cond.initialized y.cls ∈ gTs ∧ Cond.codeWith y cc maxL ret hh ∈ gTs) ∧ (y.cls ≠ "java/lang/invoke/MethodHandle" ∧ y.cls ≠ "java/lang/invoke/VarHandle" ∧ (parseMethodDescriptor y.desc).map (fun d => d.parameters.length) = some n)
def gKI (y : MethodName) (cc : ByteArray) (maxL : Nat) (n : Nat) : Prop := (Cond.instanceMethod y ∈ gTs ∧ Cond.initialized y.cls ∈ gTs ∧ Cond.code y cc maxL none ∈ gTs) ∧ y.name = "<init>" ∧ (y.cls ≠ "java/lang/invoke/MethodHandle" ∧ y.cls ≠ "java/lang/invoke/VarHandle" ∧ (parseMethodDescriptor y.desc).map (fun d => d.parameters.length) = some n)
theorem gdec {y : MethodName} {n : Nat} (h : decide (y.cls ≠ "java/lang/invoke/MethodHandle") = true) (h2 : decide (y.cls ≠ "java/lang/invoke/VarHandle") = true) (h3 : decide ((parseMethodDescriptor y.desc).map (fun d => d.parameters.length) = some n) = true) : y.cls ≠ "java/lang/invoke/MethodHandle" ∧ y.cls ≠ "java/lang/invoke/VarHandle" ∧ (parseMethodDescriptor y.desc).map (fun d => d.parameters.length) = some n := ⟨of_decide_eq_true h, of_decide_eq_true h2, of_decide_eq_true h3⟩
theorem k_X0_init : gKI yX0_init cX0_init 1 0 := ⟨⟨(gm1 (i := 39) (by decide +kernel) rfl), (gm1 (i := 2) (by decide +kernel) rfl), (gm1 (i := 40) rfl rfl)⟩, rfl, (gdec (by decide +kernel) (by decide +kernel) (by decide +kernel))⟩
theorem k_X0_clear : gKV RX0 yX0_clear cX0_clear 1 none 0 := ⟨⟨(gm4 (i := 104) (by decide +kernel) rfl), (gp3 (y := yX0_clear) (i := 8) (n := 3) (by decide +kernel) rfl), (gm1 (i := 2) (by decide +kernel) rfl), (gm4 (i := 105) rfl rfl)⟩, rfl, (gdec (by decide +kernel) (by decide +kernel) (by decide +kernel))⟩
theorem k_X0_become : gKV RX0 yX0_become cX0_become 2 none 1 := ⟨⟨(gm4 (i := 55) (by decide +kernel) rfl), (gp3 (y := yX0_become) (i := 2) (n := 3) (by decide +kernel) rfl), (gm1 (i := 2) (by decide +kernel) rfl), (gm4 (i := 56) rfl rfl)⟩, rfl, (gdec (by decide +kernel) (by decide +kernel) (by decide +kernel))⟩
theorem k_X0_sound : gKV RX0 yX0_sound cX0_sound 1 (some .long) 0 := ⟨⟨(gm3 (i := 113) (by decide +kernel) rfl), (gp1 (y := yX0_sound) (i := 12) (n := 3) (by decide +kernel) rfl), (gm1 (i := 2) (by decide +kernel) rfl), (gm3 (i := 114) rfl rfl)⟩, rfl, (gdec (by decide +kernel) (by decide +kernel) (by decide +kernel))⟩
theorem k_X0_ones : gKV RX0 yX0_ones cX0_ones 1 (some .long) 0 := ⟨⟨(gm3 (i := 117) (by decide +kernel) rfl), (gp1 (y := yX0_ones) (i := 13) (n := 3) (by decide +kernel) rfl), (gm1 (i := 2) (by decide +kernel) rfl), (gm3 (i := 118) rfl rfl)⟩, rfl, (gdec (by decide +kernel) (by decide +kernel) (by decide +kernel))⟩
theorem k_X0_blank : gKV RX0 yX0_blank cX0_blank 1 (some .long) 0 := ⟨⟨(gm3 (i := 161) (by decide +kernel) rfl), (gp2 (y := yX0_blank) (i := 1) (n := 3) (by decide +kernel) rfl), (gm1 (i := 2) (by decide +kernel) rfl), (gm3 (i := 162) rfl rfl)⟩, rfl, (gdec (by decide +kernel) (by decide +kernel) (by decide +kernel))⟩
theorem k_X0_cellsOfKind : gKV RX0 yX0_cellsOfKind cX0_cellsOfKind 2 (some .long) 1 := ⟨⟨(gm3 (i := 156) (by decide +kernel) rfl), (gp2 (y := yX0_cellsOfKind) (i := 0) (n := 3) (by decide +kernel) rfl), (gm1 (i := 2) (by decide +kernel) rfl), (gm3 (i := 157) rfl rfl)⟩, rfl, (gdec (by decide +kernel) (by decide +kernel) (by decide +kernel))⟩
theorem k_X0_kindAt : gKV RX0 yX0_kindAt cX0_kindAt 2 (some .int) 1 := ⟨⟨(gm3 (i := 223) (by decide +kernel) rfl), (gp2 (y := yX0_kindAt) (i := 12) (n := 3) (by decide +kernel) rfl), (gm1 (i := 2) (by decide +kernel) rfl), (gm3 (i := 224) rfl rfl)⟩, rfl, (gdec (by decide +kernel) (by decide +kernel) (by decide +kernel))⟩
theorem k_X0_hasHole : gKV RX0 yX0_hasHole cX0_hasHole 3 (some .boolean) 2 := ⟨⟨(gm3 (i := 211) (by decide +kernel) rfl), (gp2 (y := yX0_hasHole) (i := 11) (n := 3) (by decide +kernel) rfl), (gm1 (i := 2) (by decide +kernel) rfl), (gm3 (i := 212) rfl rfl)⟩, rfl, (gdec (by decide +kernel) (by decide +kernel) (by decide +kernel))⟩
theorem k_X0_setHole : gKV RX0 yX0_setHole cX0_setHole 6 none 3 := ⟨⟨(gm4 (i := 67) (by decide +kernel) rfl), (gp3 (y := yX0_setHole) (i := 5) (n := 3) (by decide +kernel) rfl), (gm1 (i := 2) (by decide +kernel) rfl), (gm4 (i := 68) rfl rfl)⟩, rfl, (gdec (by decide +kernel) (by decide +kernel) (by decide +kernel))⟩
theorem k_X0_punchBit : gKV RX0 yX0_punchBit cX0_punchBit 4 none 3 := ⟨⟨(gm4 (i := 63) (by decide +kernel) rfl), (gp3 (y := yX0_punchBit) (i := 4) (n := 3) (by decide +kernel) rfl), (gm1 (i := 2) (by decide +kernel) rfl), (gm4 (i := 64) rfl rfl)⟩, rfl, (gdec (by decide +kernel) (by decide +kernel) (by decide +kernel))⟩
theorem k_X0_canPunch : gKV RX0 yX0_canPunch cX0_canPunch 2 (some .boolean) 1 := ⟨⟨(gm4 (i := 26) (by decide +kernel) rfl), (gp2 (y := yX0_canPunch) (i := 15) (n := 3) (by decide +kernel) rfl), (gm1 (i := 2) (by decide +kernel) rfl), (gm4 (i := 27) rfl rfl)⟩, rfl, (gdec (by decide +kernel) (by decide +kernel) (by decide +kernel))⟩
theorem k_X0_punchRow : gKV RX0 yX0_punchRow cX0_punchRow 4 (some .int) 2 := ⟨⟨(gm4 (i := 59) (by decide +kernel) rfl), (gp3 (y := yX0_punchRow) (i := 3) (n := 3) (by decide +kernel) rfl), (gm1 (i := 2) (by decide +kernel) rfl), (gm4 (i := 60) rfl rfl)⟩, rfl, (gdec (by decide +kernel) (by decide +kernel) (by decide +kernel))⟩
theorem k_X0_canClose : gKV RX0 yX0_canClose cX0_canClose 3 (some .boolean) 0 := ⟨⟨(gm4 (i := 84) (by decide +kernel) rfl), (gp3 (y := yX0_canClose) (i := 6) (n := 3) (by decide +kernel) rfl), (gm1 (i := 2) (by decide +kernel) rfl), (gm4 (i := 85) rfl rfl)⟩, rfl, (gdec (by decide +kernel) (by decide +kernel) (by decide +kernel))⟩
theorem k_X0_punchCheckRow : gKV RX0 yX0_punchCheckRow cX0_punchCheckRow 4 (some .int) 0 := ⟨⟨(gm4 (i := 90) (by decide +kernel) rfl), (gp3 (y := yX0_punchCheckRow) (i := 7) (n := 3) (by decide +kernel) rfl), (gm1 (i := 2) (by decide +kernel) rfl), (gm4 (i := 91) rfl rfl)⟩, rfl, (gdec (by decide +kernel) (by decide +kernel) (by decide +kernel))⟩
theorem k_X0_showsBack : gKV RX0 yX0_showsBack cX0_showsBack 1 (some .boolean) 0 := ⟨⟨(gm3 (i := 200) (by decide +kernel) rfl), (gp2 (y := yX0_showsBack) (i := 9) (n := 3) (by decide +kernel) rfl), (gm1 (i := 2) (by decide +kernel) rfl), (gm3 (i := 201) rfl rfl)⟩, rfl, (gdec (by decide +kernel) (by decide +kernel) (by decide +kernel))⟩
theorem k_X0_seenCell : gKV RX0 yX0_seenCell cX0_seenCell 5 (some .int) 2 := ⟨⟨(gm3 (i := 204) (by decide +kernel) rfl), (gp2 (y := yX0_seenCell) (i := 10) (n := 3) (by decide +kernel) rfl), (gm1 (i := 2) (by decide +kernel) rfl), (gm3 (i := 205) rfl rfl)⟩, rfl, (gdec (by decide +kernel) (by decide +kernel) (by decide +kernel))⟩
theorem k_X0_showsHole : gKV RX0 yX0_showsHole cX0_showsHole 3 (some .boolean) 2 := ⟨⟨(gm3 (i := 196) (by decide +kernel) rfl), (gp2 (y := yX0_showsHole) (i := 8) (n := 3) (by decide +kernel) rfl), (gm1 (i := 2) (by decide +kernel) rfl), (gm3 (i := 197) rfl rfl)⟩, rfl, (gdec (by decide +kernel) (by decide +kernel) (by decide +kernel))⟩
theorem k_X0_rawNumber : gKV RX0 yX0_rawNumber cX0_rawNumber 4 (some .int) 1 := ⟨⟨(gm3 (i := 192) (by decide +kernel) rfl), (gp2 (y := yX0_rawNumber) (i := 7) (n := 3) (by decide +kernel) rfl), (gm1 (i := 2) (by decide +kernel) rfl), (gm3 (i := 193) rfl rfl)⟩, rfl, (gdec (by decide +kernel) (by decide +kernel) (by decide +kernel))⟩
theorem k_X1_init : gKI yX1_init cX1_init 2 0 := ⟨⟨(gm1 (i := 73) (by decide +kernel) rfl), (gm1 (i := 4) (by decide +kernel) rfl), (gm1 (i := 74) rfl rfl)⟩, rfl, (gdec (by decide +kernel) (by decide +kernel) (by decide +kernel))⟩
theorem k_X1_save : gKV RX1 yX1_save cX1_save 4 none 1 := ⟨⟨(gm4 (i := 47) (by decide +kernel) rfl), (gp3 (y := yX1_save) (i := 0) (n := 2) (by decide +kernel) rfl), (gm1 (i := 4) (by decide +kernel) rfl), (gm4 (i := 48) rfl rfl)⟩, rfl, (gdec (by decide +kernel) (by decide +kernel) (by decide +kernel))⟩
theorem k_X1_discardOldest : gKV RX1 yX1_discardOldest cX1_discardOldest 2 none 0 := ⟨⟨(gm4 (i := 51) (by decide +kernel) rfl), (gp3 (y := yX1_discardOldest) (i := 1) (n := 2) (by decide +kernel) rfl), (gm1 (i := 4) (by decide +kernel) rfl), (gm4 (i := 52) rfl rfl)⟩, rfl, (gdec (by decide +kernel) (by decide +kernel) (by decide +kernel))⟩
theorem k_X1_restores : gKV RX1 yX1_restores cX1_restores 4 (some .boolean) 1 := ⟨⟨(gm5 (i := 88) (by decide +kernel) rfl), (gp3 (y := yX1_restores) (i := 14) (n := 2) (by decide +kernel) rfl), (gm1 (i := 4) (by decide +kernel) rfl), (gm5 (i := 89) rfl rfl)⟩, rfl, (gdec (by decide +kernel) (by decide +kernel) (by decide +kernel))⟩
theorem k_X2_init : gKI yX2_init cX2_init 1 0 := ⟨⟨(gm1 (i := 89) (by decide +kernel) rfl), (gm1 (i := 5) (by decide +kernel) rfl), (gm1 (i := 90) rfl rfl)⟩, rfl, (gdec (by decide +kernel) (by decide +kernel) (by decide +kernel))⟩
theorem k_X2_begin : gKV RX2 yX2_begin cX2_begin 1 none 0 := ⟨⟨(gm3 (i := 46) (by decide +kernel) rfl), (gp1 (y := yX2_begin) (i := 2) (n := 6) (by decide +kernel) rfl), (gm1 (i := 5) (by decide +kernel) rfl), (gm3 (i := 47) rfl rfl)⟩, rfl, (gdec (by decide +kernel) (by decide +kernel) (by decide +kernel))⟩
theorem k_X2_isPartWhole : gKV RX2 yX2_isPartWhole cX2_isPartWhole 1 (some .boolean) 0 := ⟨⟨(gm5 (i := 58) (by decide +kernel) rfl), (gp3 (y := yX2_isPartWhole) (i := 10) (n := 6) (by decide +kernel) rfl), (gm1 (i := 5) (by decide +kernel) rfl), (gm5 (i := 59) rfl rfl)⟩, rfl, (gdec (by decide +kernel) (by decide +kernel) (by decide +kernel))⟩
theorem k_X2_takes : gKV RX2 yX2_takes cX2_takes 2 (some .boolean) 1 := ⟨⟨(gm3 (i := 65) (by decide +kernel) rfl), (gp1 (y := yX2_takes) (i := 3) (n := 6) (by decide +kernel) rfl), (gm1 (i := 5) (by decide +kernel) rfl), (gm3 (i := 66) rfl rfl)⟩, rfl, (gdec (by decide +kernel) (by decide +kernel) (by decide +kernel))⟩
theorem k_X2_takesLetter : gKV RX2 yX2_takesLetter cX2_takesLetter 2 (some .boolean) 1 := ⟨⟨(gm3 (i := 69) (by decide +kernel) rfl), (gp1 (y := yX2_takesLetter) (i := 4) (n := 6) (by decide +kernel) rfl), (gm1 (i := 5) (by decide +kernel) rfl), (gm3 (i := 70) rfl rfl)⟩, rfl, (gdec (by decide +kernel) (by decide +kernel) (by decide +kernel))⟩
theorem k_X2_takesFace : gKV RX2 yX2_takesFace cX2_takesFace 2 (some .boolean) 1 := ⟨⟨(gm3 (i := 73) (by decide +kernel) rfl), (gp1 (y := yX2_takesFace) (i := 5) (n := 6) (by decide +kernel) rfl), (gm1 (i := 5) (by decide +kernel) rfl), (gm3 (i := 74) rfl rfl)⟩, rfl, (gdec (by decide +kernel) (by decide +kernel) (by decide +kernel))⟩
theorem k_X2_takesRow : gKV RX2 yX2_takesRow cX2_takesRow 4 (some .boolean) 1 := ⟨⟨(gm3 (i := 77) (by decide +kernel) rfl), (gp1 (y := yX2_takesRow) (i := 6) (n := 6) (by decide +kernel) rfl), (gm1 (i := 5) (by decide +kernel) rfl), (gm3 (i := 78) rfl rfl)⟩, rfl, (gdec (by decide +kernel) (by decide +kernel) (by decide +kernel))⟩
theorem k_X2_takesColumn : gKV RX2 yX2_takesColumn cX2_takesColumn 3 (some .boolean) 1 := ⟨⟨(gm3 (i := 84) (by decide +kernel) rfl), (gp1 (y := yX2_takesColumn) (i := 7) (n := 6) (by decide +kernel) rfl), (gm1 (i := 5) (by decide +kernel) rfl), (gm3 (i := 85) rfl rfl)⟩, rfl, (gdec (by decide +kernel) (by decide +kernel) (by decide +kernel))⟩
theorem k_X2_takesSign : gKV RX2 yX2_takesSign cX2_takesSign 4 (some .boolean) 3 := ⟨⟨(gm3 (i := 88) (by decide +kernel) rfl), (gp1 (y := yX2_takesSign) (i := 8) (n := 6) (by decide +kernel) rfl), (gm1 (i := 5) (by decide +kernel) rfl), (gm3 (i := 89) rfl rfl)⟩, rfl, (gdec (by decide +kernel) (by decide +kernel) (by decide +kernel))⟩
theorem k_X2_takesNumber : gKV RX2 yX2_takesNumber cX2_takesNumber 5 (some .boolean) 3 := ⟨⟨(gm3 (i := 92) (by decide +kernel) rfl), (gp1 (y := yX2_takesNumber) (i := 9) (n := 6) (by decide +kernel) rfl), (gm1 (i := 5) (by decide +kernel) rfl), (gm3 (i := 93) rfl rfl)⟩, rfl, (gdec (by decide +kernel) (by decide +kernel) (by decide +kernel))⟩
theorem k_X2_takesMoreOfValue : gKV RX2 yX2_takesMoreOfValue cX2_takesMoreOfValue 3 (some .boolean) 1 := ⟨⟨(gm3 (i := 96) (by decide +kernel) rfl), (gp1 (y := yX2_takesMoreOfValue) (i := 10) (n := 6) (by decide +kernel) rfl), (gm1 (i := 5) (by decide +kernel) rfl), (gm3 (i := 97) rfl rfl)⟩, rfl, (gdec (by decide +kernel) (by decide +kernel) (by decide +kernel))⟩
theorem k_X2_digitUpTo : gKS yX2_digitUpTo cX2_digitUpTo 3 (some .int) 2 := ⟨⟨(gm3 (i := 80) (by decide +kernel) rfl), (gm1 (i := 5) (by decide +kernel) rfl), (gm3 (i := 81) rfl rfl)⟩, (gdec (by decide +kernel) (by decide +kernel) (by decide +kernel))⟩
theorem k_X3_init : gKI yX3_init cX3_init 1 0 := ⟨⟨(gm1 (i := 58) (by decide +kernel) rfl), (gm1 (i := 3) (by decide +kernel) rfl), (gm1 (i := 59) rfl rfl)⟩, rfl, (gdec (by decide +kernel) (by decide +kernel) (by decide +kernel))⟩
theorem k_X3_findAll : gKV RX3 yX3_findAll cX3_findAll 9 none 2 := ⟨⟨(gm3 (i := 122) (by decide +kernel) rfl), (gp1 (y := yX3_findAll) (i := 14) (n := 2) (by decide +kernel) rfl), (gm1 (i := 3) (by decide +kernel) rfl), (gm3 (i := 123) rfl rfl)⟩, rfl, (gdec (by decide +kernel) (by decide +kernel) (by decide +kernel))⟩
theorem k_X3_tellLastOf : gKV RX3 yX3_tellLastOf cX3_tellLastOf 5 none 1 := ⟨⟨(gm3 (i := 130) (by decide +kernel) rfl), (gp1 (y := yX3_tellLastOf) (i := 15) (n := 2) (by decide +kernel) rfl), (gm1 (i := 3) (by decide +kernel) rfl), (gm3 (i := 131) rfl rfl)⟩, rfl, (gdec (by decide +kernel) (by decide +kernel) (by decide +kernel))⟩
theorem k_X3_unknownCells : gKV RX3 yX3_unknownCells cX3_unknownCells 1 (some .int) 0 := ⟨⟨(gm3 (i := 165) (by decide +kernel) rfl), (gp2 (y := yX3_unknownCells) (i := 2) (n := 2) (by decide +kernel) rfl), (gm1 (i := 3) (by decide +kernel) rfl), (gm3 (i := 166) rfl rfl)⟩, rfl, (gdec (by decide +kernel) (by decide +kernel) (by decide +kernel))⟩
theorem k_X3_bitAt : gKV RX3 yX3_bitAt cX3_bitAt 2 (some .int) 1 := ⟨⟨(gm3 (i := 227) (by decide +kernel) rfl), (gp2 (y := yX3_bitAt) (i := 13) (n := 2) (by decide +kernel) rfl), (gm1 (i := 3) (by decide +kernel) rfl), (gm3 (i := 228) rfl rfl)⟩, rfl, (gdec (by decide +kernel) (by decide +kernel) (by decide +kernel))⟩
theorem k_X3_disagrees : gKV RX3 yX3_disagrees cX3_disagrees 4 (some .boolean) 1 := ⟨⟨(gm3 (i := 173) (by decide +kernel) rfl), (gp2 (y := yX3_disagrees) (i := 4) (n := 2) (by decide +kernel) rfl), (gm1 (i := 3) (by decide +kernel) rfl), (gm3 (i := 174) rfl rfl)⟩, rfl, (gdec (by decide +kernel) (by decide +kernel) (by decide +kernel))⟩
theorem k_X3_disagreeingLines : gKV RX3 yX3_disagreeingLines cX3_disagreeingLines 3 (some .int) 0 := ⟨⟨(gm3 (i := 169) (by decide +kernel) rfl), (gp2 (y := yX3_disagreeingLines) (i := 3) (n := 2) (by decide +kernel) rfl), (gm1 (i := 3) (by decide +kernel) rfl), (gm3 (i := 170) rfl rfl)⟩, rfl, (gdec (by decide +kernel) (by decide +kernel) (by decide +kernel))⟩
theorem k_X3_disagreeingLine : gKV RX3 yX3_disagreeingLine cX3_disagreeingLine 4 (some .int) 1 := ⟨⟨(gm4 (i := 232) (by decide +kernel) rfl), (gp3 (y := yX3_disagreeingLine) (i := 9) (n := 2) (by decide +kernel) rfl), (gm1 (i := 3) (by decide +kernel) rfl), (gm4 (i := 233) rfl rfl)⟩, rfl, (gdec (by decide +kernel) (by decide +kernel) (by decide +kernel))⟩
theorem k_X4_init : gKI yX4_init cX4_init 2 0 := ⟨⟨(gm1 (i := 30) (by decide +kernel) rfl), (gm1 (i := 1) (by decide +kernel) rfl), (gm1 (i := 31) rfl rfl)⟩, rfl, (gdec (by decide +kernel) (by decide +kernel) (by decide +kernel))⟩
theorem k_X4_punch : gKV RX4 yX4_punch cX4_punch 5 (some .int) 3 := ⟨⟨(gm3 (i := 237) (by decide +kernel) rfl), (gm3 (i := 238) (by decide +kernel) rfl), (gm1 (i := 1) (by decide +kernel) rfl), (gm3 (i := 239) rfl rfl)⟩, rfl, (gdec (by decide +kernel) (by decide +kernel) (by decide +kernel))⟩
theorem k_X4_close : gKV RX4 yX4_close cX4_close 3 (some .int) 1 := ⟨⟨(gm4 (i := 79) (by decide +kernel) rfl), (gm4 (i := 80) (by decide +kernel) rfl), (gm1 (i := 1) (by decide +kernel) rfl), (gm4 (i := 81) rfl rfl)⟩, rfl, (gdec (by decide +kernel) (by decide +kernel) (by decide +kernel))⟩
theorem k_X4_renew : gKV RX4 yX4_renew cX4_renew 4 (some .int) 1 := ⟨⟨(gm4 (i := 99) (by decide +kernel) rfl), (gm4 (i := 100) (by decide +kernel) rfl), (gm1 (i := 1) (by decide +kernel) rfl), (gm4 (i := 101) rfl rfl)⟩, rfl, (gdec (by decide +kernel) (by decide +kernel) (by decide +kernel))⟩
theorem k_X4_copy : gKV RX4 yX4_copy cX4_copy 6 (some .int) 2 := ⟨⟨(gm4 (i := 110) (by decide +kernel) rfl), (gm4 (i := 111) (by decide +kernel) rfl), (gm1 (i := 1) (by decide +kernel) rfl), (gm4 (i := 112) rfl rfl)⟩, rfl, (gdec (by decide +kernel) (by decide +kernel) (by decide +kernel))⟩
theorem k_X4_wear : gKV RX4 yX4_wear cX4_wear 6 (some .int) 3 := ⟨⟨(gm4 (i := 119) (by decide +kernel) rfl), (gm4 (i := 120) (by decide +kernel) rfl), (gm1 (i := 1) (by decide +kernel) rfl), (gm4 (i := 121) rfl rfl)⟩, rfl, (gdec (by decide +kernel) (by decide +kernel) (by decide +kernel))⟩
theorem k_X4_lose : gKV RX4 yX4_lose cX4_lose 6 (some .int) 3 := ⟨⟨(gm4 (i := 138) (by decide +kernel) rfl), (gm4 (i := 139) (by decide +kernel) rfl), (gm1 (i := 1) (by decide +kernel) rfl), (gm4 (i := 140) rfl rfl)⟩, rfl, (gdec (by decide +kernel) (by decide +kernel) (by decide +kernel))⟩
theorem k_X4_turn : gKV RX4 yX4_turn cX4_turn 5 (some .int) 2 := ⟨⟨(gm4 (i := 146) (by decide +kernel) rfl), (gm4 (i := 147) (by decide +kernel) rfl), (gm1 (i := 1) (by decide +kernel) rfl), (gm4 (i := 148) rfl rfl)⟩, rfl, (gdec (by decide +kernel) (by decide +kernel) (by decide +kernel))⟩
theorem k_X4_view : gKV RX4 yX4_view cX4_view 2 (some .int) 1 := ⟨⟨(gm4 (i := 154) (by decide +kernel) rfl), (gm4 (i := 155) (by decide +kernel) rfl), (gm1 (i := 1) (by decide +kernel) rfl), (gm4 (i := 156) rfl rfl)⟩, rfl, (gdec (by decide +kernel) (by decide +kernel) (by decide +kernel))⟩
theorem k_X4_sees : gKV RX4 yX4_sees cX4_sees 5 (some .boolean) 3 := ⟨⟨(gm4 (i := 161) (by decide +kernel) rfl), (gm4 (i := 162) (by decide +kernel) rfl), (gm1 (i := 1) (by decide +kernel) rfl), (gm4 (i := 163) rfl rfl)⟩, rfl, (gdec (by decide +kernel) (by decide +kernel) (by decide +kernel))⟩
theorem k_X4_raw : gKV RX4 yX4_raw cX4_raw 4 (some .int) 2 := ⟨⟨(gm4 (i := 169) (by decide +kernel) rfl), (gm4 (i := 170) (by decide +kernel) rfl), (gm1 (i := 1) (by decide +kernel) rfl), (gm4 (i := 171) rfl rfl)⟩, rfl, (gdec (by decide +kernel) (by decide +kernel) (by decide +kernel))⟩
theorem k_X4_kind : gKV RX4 yX4_kind cX4_kind 5 (some .int) 3 := ⟨⟨(gm4 (i := 176) (by decide +kernel) rfl), (gm4 (i := 177) (by decide +kernel) rfl), (gm1 (i := 1) (by decide +kernel) rfl), (gm4 (i := 178) rfl rfl)⟩, rfl, (gdec (by decide +kernel) (by decide +kernel) (by decide +kernel))⟩
theorem k_X4_told : gKV RX4 yX4_told cX4_told 5 (some .int) 3 := ⟨⟨(gm4 (i := 183) (by decide +kernel) rfl), (gm4 (i := 184) (by decide +kernel) rfl), (gm1 (i := 1) (by decide +kernel) rfl), (gm4 (i := 185) rfl rfl)⟩, rfl, (gdec (by decide +kernel) (by decide +kernel) (by decide +kernel))⟩
theorem k_X4_count : gKV RX4 yX4_count cX4_count 4 (some .int) 2 := ⟨⟨(gm4 (i := 190) (by decide +kernel) rfl), (gm4 (i := 191) (by decide +kernel) rfl), (gm1 (i := 1) (by decide +kernel) rfl), (gm4 (i := 192) rfl rfl)⟩, rfl, (gdec (by decide +kernel) (by decide +kernel) (by decide +kernel))⟩
theorem k_X4_read : gKV RX4 yX4_read cX4_read 4 (some .int) 2 := ⟨⟨(gm4 (i := 198) (by decide +kernel) rfl), (gm4 (i := 199) (by decide +kernel) rfl), (gm1 (i := 1) (by decide +kernel) rfl), (gm4 (i := 200) rfl rfl)⟩, rfl, (gdec (by decide +kernel) (by decide +kernel) (by decide +kernel))⟩
theorem k_X4_value : gKV RX4 yX4_value cX4_value 5 (some .int) 2 := ⟨⟨(gm4 (i := 205) (by decide +kernel) rfl), (gm4 (i := 206) (by decide +kernel) rfl), (gm1 (i := 1) (by decide +kernel) rfl), (gm4 (i := 207) rfl rfl)⟩, rfl, (gdec (by decide +kernel) (by decide +kernel) (by decide +kernel))⟩
theorem k_X4_untold : gKV RX4 yX4_untold cX4_untold 2 (some .int) 1 := ⟨⟨(gm4 (i := 212) (by decide +kernel) rfl), (gm4 (i := 213) (by decide +kernel) rfl), (gm1 (i := 1) (by decide +kernel) rfl), (gm4 (i := 214) rfl rfl)⟩, rfl, (gdec (by decide +kernel) (by decide +kernel) (by decide +kernel))⟩
theorem k_X4_disagreements : gKV RX4 yX4_disagreements cX4_disagreements 2 (some .int) 1 := ⟨⟨(gm4 (i := 219) (by decide +kernel) rfl), (gm4 (i := 220) (by decide +kernel) rfl), (gm1 (i := 1) (by decide +kernel) rfl), (gm4 (i := 221) rfl rfl)⟩, rfl, (gdec (by decide +kernel) (by decide +kernel) (by decide +kernel))⟩
theorem k_X4_disagreement : gKV RX4 yX4_disagreement cX4_disagreement 4 (some .int) 2 := ⟨⟨(gm4 (i := 226) (by decide +kernel) rfl), (gm4 (i := 227) (by decide +kernel) rfl), (gm1 (i := 1) (by decide +kernel) rfl), (gm4 (i := 228) rfl rfl)⟩, rfl, (gdec (by decide +kernel) (by decide +kernel) (by decide +kernel))⟩
theorem k_X4_soundShare : gKV RX4 yX4_soundShare cX4_soundShare 3 (some .double) 1 := ⟨⟨(gm4 (i := 238) (by decide +kernel) rfl), (gm4 (i := 239) (by decide +kernel) rfl), (gm1 (i := 1) (by decide +kernel) rfl), (gm5 (i := 0) rfl rfl)⟩, rfl, (gdec (by decide +kernel) (by decide +kernel) (by decide +kernel))⟩
theorem k_X4_untoldIf : gKV RX4 yX4_untoldIf cX4_untoldIf 5 (some .int) 3 := ⟨⟨(gm5 (i := 6) (by decide +kernel) rfl), (gm5 (i := 7) (by decide +kernel) rfl), (gm1 (i := 1) (by decide +kernel) rfl), (gm5 (i := 8) rfl rfl)⟩, rfl, (gdec (by decide +kernel) (by decide +kernel) (by decide +kernel))⟩
theorem k_X4_worst : gKV RX4 yX4_worst cX4_worst 2 (some .int) 1 := ⟨⟨(gm5 (i := 13) (by decide +kernel) rfl), (gm5 (i := 14) (by decide +kernel) rfl), (gm1 (i := 1) (by decide +kernel) rfl), (gm5 (i := 15) rfl rfl)⟩, rfl, (gdec (by decide +kernel) (by decide +kernel) (by decide +kernel))⟩
theorem k_X4_difference : gKV RX4 yX4_difference cX4_difference 10 (some .int) 2 := ⟨⟨(gm5 (i := 20) (by decide +kernel) rfl), (gm5 (i := 21) (by decide +kernel) rfl), (gm1 (i := 1) (by decide +kernel) rfl), (gm5 (i := 22) rfl rfl)⟩, rfl, (gdec (by decide +kernel) (by decide +kernel) (by decide +kernel))⟩
theorem k_X4_append : gKV RX4 yX4_append cX4_append 2 (some .int) 1 := ⟨⟨(gm5 (i := 27) (by decide +kernel) rfl), (gm5 (i := 28) (by decide +kernel) rfl), (gm1 (i := 1) (by decide +kernel) rfl), (gm5 (i := 29) rfl rfl)⟩, rfl, (gdec (by decide +kernel) (by decide +kernel) (by decide +kernel))⟩
theorem k_X4_clearText : gKV RX4 yX4_clearText cX4_clearText 2 (some .int) 0 := ⟨⟨(gm1 (i := 169) (by decide +kernel) rfl), (gm1 (i := 170) (by decide +kernel) rfl), (gm1 (i := 1) (by decide +kernel) rfl), (gm1 (i := 171) rfl rfl)⟩, rfl, (gdec (by decide +kernel) (by decide +kernel) (by decide +kernel))⟩
theorem k_X4_firstError : gKV RX4 yX4_firstError cX4_firstError 1 (some .int) 0 := ⟨⟨(gm3 (i := 37) (by decide +kernel) rfl), (gm3 (i := 38) (by decide +kernel) rfl), (gm1 (i := 1) (by decide +kernel) rfl), (gm3 (i := 39) rfl rfl)⟩, rfl, (gdec (by decide +kernel) (by decide +kernel) (by decide +kernel))⟩
theorem k_X4_run : gKV RX4 yX4_run cX4_run 2 (some .int) 0 := ⟨⟨(gm5 (i := 53) (by decide +kernel) rfl), (gm5 (i := 54) (by decide +kernel) rfl), (gm1 (i := 1) (by decide +kernel) rfl), (gm5 (i := 55) rfl rfl)⟩, rfl, (gdec (by decide +kernel) (by decide +kernel) (by decide +kernel))⟩
theorem k_X4_undo : gKV RX4 yX4_undo cX4_undo 1 (some .int) 0 := ⟨⟨(gm5 (i := 83) (by decide +kernel) rfl), (gm5 (i := 84) (by decide +kernel) rfl), (gm1 (i := 1) (by decide +kernel) rfl), (gm5 (i := 85) rfl rfl)⟩, rfl, (gdec (by decide +kernel) (by decide +kernel) (by decide +kernel))⟩
theorem k_X4_savedStates : gKV RX4 yX4_savedStates cX4_savedStates 1 (some .int) 0 := ⟨⟨(gm3 (i := 99) (by decide +kernel) rfl), (gm3 (i := 100) (by decide +kernel) rfl), (gm1 (i := 1) (by decide +kernel) rfl), (gm3 (i := 101) rfl rfl)⟩, rfl, (gdec (by decide +kernel) (by decide +kernel) (by decide +kernel))⟩
theorem k_X4_digest : gKV RX4 yX4_digest cX4_digest 6 (some .long) 0 := ⟨⟨(gm3 (i := 103) (by decide +kernel) rfl), (gm3 (i := 104) (by decide +kernel) rfl), (gm1 (i := 1) (by decide +kernel) rfl), (gm3 (i := 105) rfl rfl)⟩, rfl, (gdec (by decide +kernel) (by decide +kernel) (by decide +kernel))⟩
theorem k_X4_mixed : gKS yX4_mixed cX4_mixed 3 (some .long) 2 := ⟨⟨(gm3 (i := 148) (by decide +kernel) rfl), (gm1 (i := 1) (by decide +kernel) rfl), (gm3 (i := 149) rfl rfl)⟩, (gdec (by decide +kernel) (by decide +kernel) (by decide +kernel))⟩
theorem k_X4_mixedWithCounts : gKS yX4_mixedWithCounts cX4_mixedWithCounts 6 (some .long) 2 := ⟨⟨(gm3 (i := 152) (by decide +kernel) rfl), (gm1 (i := 1) (by decide +kernel) rfl), (gm3 (i := 153) rfl rfl)⟩, (gdec (by decide +kernel) (by decide +kernel) (by decide +kernel))⟩
theorem k_X4_mixedWithRows : gKS yX4_mixedWithRows cX4_mixedWithRows 7 (some .long) 3 := ⟨⟨(gm3 (i := 188) (by decide +kernel) rfl), (gm1 (i := 1) (by decide +kernel) rfl), (gm3 (i := 189) rfl rfl)⟩, (gdec (by decide +kernel) (by decide +kernel) (by decide +kernel))⟩
theorem k_X4_mixedWithCells : gKS yX4_mixedWithCells cX4_mixedWithCells 7 (some .long) 3 := ⟨⟨(gm3 (i := 219) (by decide +kernel) rfl), (gm1 (i := 1) (by decide +kernel) rfl), (gm3 (i := 220) rfl rfl)⟩, (gdec (by decide +kernel) (by decide +kernel) (by decide +kernel))⟩
theorem k_X4_cardAt : gKV RX4 yX4_cardAt cX4_cardAt 2 (some (.object "MirrorCards$Card")) 1 := ⟨⟨(gm4 (i := 2) (by decide +kernel) rfl), (gp2 (y := yX4_cardAt) (i := 14) (n := 6) (by decide +kernel) rfl), (gm1 (i := 1) (by decide +kernel) rfl), (gm4 (i := 3) rfl rfl)⟩, rfl, (gdec (by decide +kernel) (by decide +kernel) (by decide +kernel))⟩
theorem k_X4_tellingOf : gKV RX4 yX4_tellingOf cX4_tellingOf 2 (some (.object "MirrorCards$Telling")) 1 := ⟨⟨(gm3 (i := 109) (by decide +kernel) rfl), (gp1 (y := yX4_tellingOf) (i := 11) (n := 6) (by decide +kernel) rfl), (gm1 (i := 1) (by decide +kernel) rfl), (gm3 (i := 110) rfl rfl)⟩, rfl, (gdec (by decide +kernel) (by decide +kernel) (by decide +kernel))⟩
theorem k_X4_requireInSide : gKS yX4_requireInSide cX4_requireInSide 1 none 1 := ⟨⟨(gm4 (i := 126) (by decide +kernel) rfl), (gm1 (i := 1) (by decide +kernel) rfl), (gm4 (i := 127) rfl rfl)⟩, (gdec (by decide +kernel) (by decide +kernel) (by decide +kernel))⟩
theorem k_X4_requireCell : gKS yX4_requireCell cX4_requireCell 2 none 2 := ⟨⟨(gm4 (i := 123) (by decide +kernel) rfl), (gm1 (i := 1) (by decide +kernel) rfl), (gm4 (i := 124) rfl rfl)⟩, (gdec (by decide +kernel) (by decide +kernel) (by decide +kernel))⟩
theorem k_X4_requireRowWithValue : gKS yX4_requireRowWithValue cX4_requireRowWithValue 1 none 1 := ⟨⟨(gm4 (i := 18) (by decide +kernel) rfl), (gm1 (i := 1) (by decide +kernel) rfl), (gm4 (i := 19) rfl rfl)⟩, (gdec (by decide +kernel) (by decide +kernel) (by decide +kernel))⟩
theorem k_X4_cellNumber : gKS yX4_cellNumber cX4_cellNumber 2 (some .int) 2 := ⟨⟨(gm3 (i := 207) (by decide +kernel) rfl), (gm1 (i := 1) (by decide +kernel) rfl), (gm3 (i := 208) rfl rfl)⟩, (gdec (by decide +kernel) (by decide +kernel) (by decide +kernel))⟩
theorem k_X4_isIn : gKS yX4_isIn cX4_isIn 3 (some .boolean) 2 := ⟨⟨(gm3 (i := 184) (by decide +kernel) rfl), (gm1 (i := 1) (by decide +kernel) rfl), (gm3 (i := 185) rfl rfl)⟩, (gdec (by decide +kernel) (by decide +kernel) (by decide +kernel))⟩
theorem k_X4_isOdd : gKS yX4_isOdd cX4_isOdd 2 (some .boolean) 1 := ⟨⟨(gm3 (i := 140) (by decide +kernel) rfl), (gm1 (i := 1) (by decide +kernel) rfl), (gm3 (i := 141) rfl rfl)⟩, (gdec (by decide +kernel) (by decide +kernel) (by decide +kernel))⟩
theorem k_X4_rowCells : gKS yX4_rowCells cX4_rowCells 1 (some .long) 1 := ⟨⟨(gm3 (i := 125) (by decide +kernel) rfl), (gm1 (i := 1) (by decide +kernel) rfl), (gm3 (i := 126) rfl rfl)⟩, (gdec (by decide +kernel) (by decide +kernel) (by decide +kernel))⟩
theorem k_X4_columnCells : gKS yX4_columnCells cX4_columnCells 1 (some .long) 1 := ⟨⟨(gm3 (i := 144) (by decide +kernel) rfl), (gm1 (i := 1) (by decide +kernel) rfl), (gm3 (i := 145) rfl rfl)⟩, (gdec (by decide +kernel) (by decide +kernel) (by decide +kernel))⟩
theorem k_X4_rowValue : gKS yX4_rowValue cX4_rowValue 8 (some .int) 3 := ⟨⟨(gm3 (i := 215) (by decide +kernel) rfl), (gm1 (i := 1) (by decide +kernel) rfl), (gm3 (i := 216) rfl rfl)⟩, (gdec (by decide +kernel) (by decide +kernel) (by decide +kernel))⟩
theorem k_X4_untoldWithout : gKV RX4 yX4_untoldWithout cX4_untoldWithout 5 (some .int) 2 := ⟨⟨(gm3 (i := 181) (by decide +kernel) rfl), (gp2 (y := yX4_untoldWithout) (i := 6) (n := 6) (by decide +kernel) rfl), (gm1 (i := 1) (by decide +kernel) rfl), (gm3 (i := 182) rfl rfl)⟩, rfl, (gdec (by decide +kernel) (by decide +kernel) (by decide +kernel))⟩
theorem k_X4_worstCell : gKV RX4 yX4_worstCell cX4_worstCell 6 (some .int) 1 := ⟨⟨(gm3 (i := 177) (by decide +kernel) rfl), (gp2 (y := yX4_worstCell) (i := 5) (n := 6) (by decide +kernel) rfl), (gm1 (i := 1) (by decide +kernel) rfl), (gm3 (i := 178) rfl rfl)⟩, rfl, (gdec (by decide +kernel) (by decide +kernel) (by decide +kernel))⟩
theorem k_X4_readText : gKV RX4 yX4_readText cX4_readText 2 (some .int) 0 := ⟨⟨(gm3 (i := 42) (by decide +kernel) rfl), (gp1 (y := yX4_readText) (i := 1) (n := 6) (by decide +kernel) rfl), (gm1 (i := 1) (by decide +kernel) rfl), (gm3 (i := 43) rfl rfl)⟩, rfl, (gdec (by decide +kernel) (by decide +kernel) (by decide +kernel))⟩
theorem k_X4_doParts : gKV RX4 yX4_doParts cX4_doParts 4 (some .int) 1 := ⟨⟨(gm5 (i := 63) (by decide +kernel) rfl), (gp3 (y := yX4_doParts) (i := 11) (n := 6) (by decide +kernel) rfl), (gm1 (i := 1) (by decide +kernel) rfl), (gm5 (i := 64) rfl rfl)⟩, rfl, (gdec (by decide +kernel) (by decide +kernel) (by decide +kernel))⟩
theorem k_X4_tryPart : gKV RX4 yX4_tryPart cX4_tryPart 2 (some .boolean) 1 := ⟨⟨(gm5 (i := 67) (by decide +kernel) rfl), (gp3 (y := yX4_tryPart) (i := 12) (n := 6) (by decide +kernel) rfl), (gm1 (i := 1) (by decide +kernel) rfl), (gm5 (i := 68) rfl rfl)⟩, rfl, (gdec (by decide +kernel) (by decide +kernel) (by decide +kernel))⟩
theorem k_X4_tryPunching : gKS yX4_tryPunching cX4_tryPunching 3 (some .boolean) 3 := ⟨⟨(gm5 (i := 70) (by decide +kernel) rfl), (gm1 (i := 1) (by decide +kernel) rfl), (gm5 (i := 71) rfl rfl)⟩, (gdec (by decide +kernel) (by decide +kernel) (by decide +kernel))⟩
theorem k_X4_tryClosing : gKS yX4_tryClosing cX4_tryClosing 1 (some .boolean) 1 := ⟨⟨(gm5 (i := 73) (by decide +kernel) rfl), (gm1 (i := 1) (by decide +kernel) rfl), (gm5 (i := 74) rfl rfl)⟩, (gdec (by decide +kernel) (by decide +kernel) (by decide +kernel))⟩
theorem k_X4_tryHole : gKV RX4 yX4_tryHole cX4_tryHole 4 (some .boolean) 2 := ⟨⟨(gm5 (i := 77) (by decide +kernel) rfl), (gp3 (y := yX4_tryHole) (i := 13) (n := 6) (by decide +kernel) rfl), (gm1 (i := 1) (by decide +kernel) rfl), (gm5 (i := 78) rfl rfl)⟩, rfl, (gdec (by decide +kernel) (by decide +kernel) (by decide +kernel))⟩
theorem k_X5_init : gKI yX5_init cX5_init 2 0 := ⟨⟨(gm5 (i := 94) (by decide +kernel) rfl), (gm1 (i := 10) (by decide +kernel) rfl), (gm5 (i := 95) rfl rfl)⟩, rfl, (gdec (by decide +kernel) (by decide +kernel) (by decide +kernel))⟩
theorem k_X5_thrown : gKV RX5 yX5_thrown cX5_thrown 1 (some .int) 0 := ⟨⟨(gm5 (i := 144) (by decide +kernel) rfl), (gm5 (i := 145) (by decide +kernel) rfl), (gm1 (i := 10) (by decide +kernel) rfl), (gm5 (i := 146) rfl rfl)⟩, rfl, (gdec (by decide +kernel) (by decide +kernel) (by decide +kernel))⟩
theorem k_X5_in : gKS yX5_in cX5_in 3 (some .boolean) 3 := ⟨⟨(gm5 (i := 155) (by decide +kernel) rfl), (gm1 (i := 10) (by decide +kernel) rfl), (gm5 (i := 156) rfl rfl)⟩, (gdec (by decide +kernel) (by decide +kernel) (by decide +kernel))⟩
theorem k_X5_holds : gKV RX5 yX5_holds cX5_holds 2 (some .boolean) 1 := ⟨⟨(gm5 (i := 167) (by decide +kernel) rfl), (gp4 (y := yX5_holds) (i := 3) (n := 12) (by decide +kernel) rfl), (gm1 (i := 10) (by decide +kernel) rfl), (gm5 (i := 168) rfl rfl)⟩, rfl, (gdec (by decide +kernel) (by decide +kernel) (by decide +kernel))⟩
theorem k_X5_isCard : gKS yX5_isCard cX5_isCard 1 (some .boolean) 1 := ⟨⟨(gm5 (i := 152) (by decide +kernel) rfl), (gm1 (i := 10) (by decide +kernel) rfl), (gm5 (i := 153) rfl rfl)⟩, (gdec (by decide +kernel) (by decide +kernel) (by decide +kernel))⟩
theorem k_X5_isCell : gKS yX5_isCell cX5_isCell 2 (some .boolean) 2 := ⟨⟨(gm5 (i := 236) (by decide +kernel) rfl), (gm1 (i := 10) (by decide +kernel) rfl), (gm5 (i := 237) rfl rfl)⟩, (gdec (by decide +kernel) (by decide +kernel) (by decide +kernel))⟩
theorem k_X5_of : gKV RX5 yX5_of cX5_of 3 (some .int) 2 := ⟨⟨(gm5 (i := 163) (by decide +kernel) rfl), (gp4 (y := yX5_of) (i := 2) (n := 12) (by decide +kernel) rfl), (gm1 (i := 10) (by decide +kernel) rfl), (gm5 (i := 164) rfl rfl)⟩, rfl, (gdec (by decide +kernel) (by decide +kernel) (by decide +kernel))⟩
theorem k_X5_lay : gKV RX5 yX5_lay cX5_lay 4 none 3 := ⟨⟨(gm5 (i := 103) (by decide +kernel) rfl), (gp4 (y := yX5_lay) (i := 0) (n := 12) (by decide +kernel) rfl), (gm1 (i := 10) (by decide +kernel) rfl), (gm5 (i := 104) rfl rfl)⟩, rfl, (gdec (by decide +kernel) (by decide +kernel) (by decide +kernel))⟩
theorem k_X5_viewOf : gKV RX5 yX5_viewOf cX5_viewOf 2 (some .int) 1 := ⟨⟨(gm6 (i := 4) (by decide +kernel) rfl), (gp5 (y := yX5_viewOf) (i := 0) (n := 12) (by decide +kernel) rfl), (gm1 (i := 10) (by decide +kernel) rfl), (gm6 (i := 5) rfl rfl)⟩, rfl, (gdec (by decide +kernel) (by decide +kernel) (by decide +kernel))⟩
theorem k_X5_isSound : gKS yX5_isSound cX5_isSound 1 (some .boolean) 1 := ⟨⟨(gm5 (i := 190) (by decide +kernel) rfl), (gm1 (i := 10) (by decide +kernel) rfl), (gm5 (i := 191) rfl rfl)⟩, (gdec (by decide +kernel) (by decide +kernel) (by decide +kernel))⟩
theorem k_X5_blanks : gKV RX5 yX5_blanks cX5_blanks 3 none 1 := ⟨⟨(gm5 (i := 99) (by decide +kernel) rfl), (gp3 (y := yX5_blanks) (i := 15) (n := 12) (by decide +kernel) rfl), (gm1 (i := 10) (by decide +kernel) rfl), (gm5 (i := 100) rfl rfl)⟩, rfl, (gdec (by decide +kernel) (by decide +kernel) (by decide +kernel))⟩
theorem k_X5_counted : gKV RX5 yX5_counted cX5_counted 5 (some .int) 2 := ⟨⟨(gm5 (i := 202) (by decide +kernel) rfl), (gp4 (y := yX5_counted) (i := 9) (n := 12) (by decide +kernel) rfl), (gm1 (i := 10) (by decide +kernel) rfl), (gm5 (i := 203) rfl rfl)⟩, rfl, (gdec (by decide +kernel) (by decide +kernel) (by decide +kernel))⟩
theorem k_X5_hasHole : gKS yX5_hasHole cX5_hasHole 2 (some .boolean) 2 := ⟨⟨(gm6 (i := 13) (by decide +kernel) rfl), (gm1 (i := 10) (by decide +kernel) rfl), (gm6 (i := 14) rfl rfl)⟩, (gdec (by decide +kernel) (by decide +kernel) (by decide +kernel))⟩
theorem k_X5_turned : gKS yX5_turned cX5_turned 2 (some .int) 2 := ⟨⟨(gm6 (i := 16) (by decide +kernel) rfl), (gm1 (i := 10) (by decide +kernel) rfl), (gm6 (i := 17) rfl rfl)⟩, (gdec (by decide +kernel) (by decide +kernel) (by decide +kernel))⟩
theorem k_X5_seenCell : gKS yX5_seenCell cX5_seenCell 5 (some .int) 3 := ⟨⟨(gm6 (i := 7) (by decide +kernel) rfl), (gm1 (i := 10) (by decide +kernel) rfl), (gm6 (i := 8) rfl rfl)⟩, (gdec (by decide +kernel) (by decide +kernel) (by decide +kernel))⟩
theorem k_X5_faceOf : gKS yX5_faceOf cX5_faceOf 1 (some .int) 1 := ⟨⟨(gm6 (i := 10) (by decide +kernel) rfl), (gm1 (i := 10) (by decide +kernel) rfl), (gm6 (i := 11) rfl rfl)⟩, (gdec (by decide +kernel) (by decide +kernel) (by decide +kernel))⟩
theorem k_X5_isSeen : gKV RX5 yX5_isSeen cX5_isSeen 4 (some .boolean) 3 := ⟨⟨(gm6 (i := 0) (by decide +kernel) rfl), (gp4 (y := yX5_isSeen) (i := 15) (n := 12) (by decide +kernel) rfl), (gm1 (i := 10) (by decide +kernel) rfl), (gm6 (i := 1) rfl rfl)⟩, rfl, (gdec (by decide +kernel) (by decide +kernel) (by decide +kernel))⟩
theorem k_X5_rawOf : gKV RX5 yX5_rawOf cX5_rawOf 5 (some .int) 2 := ⟨⟨(gm6 (i := 40) (by decide +kernel) rfl), (gp5 (y := yX5_rawOf) (i := 1) (n := 12) (by decide +kernel) rfl), (gm1 (i := 10) (by decide +kernel) rfl), (gm6 (i := 41) rfl rfl)⟩, rfl, (gdec (by decide +kernel) (by decide +kernel) (by decide +kernel))⟩
theorem k_X5_lineCell : gKS yX5_lineCell cX5_lineCell 2 (some .int) 2 := ⟨⟨(gm5 (i := 221) (by decide +kernel) rfl), (gm1 (i := 10) (by decide +kernel) rfl), (gm5 (i := 222) rfl rfl)⟩, (gdec (by decide +kernel) (by decide +kernel) (by decide +kernel))⟩
theorem k_X5_missing : gKV RX5 yX5_missing cX5_missing 4 (some .int) 1 := ⟨⟨(gm5 (i := 218) (by decide +kernel) rfl), (gp4 (y := yX5_missing) (i := 12) (n := 12) (by decide +kernel) rfl), (gm1 (i := 10) (by decide +kernel) rfl), (gm5 (i := 219) rfl rfl)⟩, rfl, (gdec (by decide +kernel) (by decide +kernel) (by decide +kernel))⟩
theorem k_X5_parity : gKV RX5 yX5_parity cX5_parity 4 (some .int) 1 := ⟨⟨(gm5 (i := 225) (by decide +kernel) rfl), (gp4 (y := yX5_parity) (i := 13) (n := 12) (by decide +kernel) rfl), (gm1 (i := 10) (by decide +kernel) rfl), (gm5 (i := 226) rfl rfl)⟩, rfl, (gdec (by decide +kernel) (by decide +kernel) (by decide +kernel))⟩
theorem k_X5_tellsLine : gKV RX5 yX5_tellsLine cX5_tellsLine 5 (some .boolean) 1 := ⟨⟨(gm5 (i := 214) (by decide +kernel) rfl), (gp4 (y := yX5_tellsLine) (i := 11) (n := 12) (by decide +kernel) rfl), (gm1 (i := 10) (by decide +kernel) rfl), (gm5 (i := 215) rfl rfl)⟩, rfl, (gdec (by decide +kernel) (by decide +kernel) (by decide +kernel))⟩
theorem k_X5_tells : gKV RX5 yX5_tells cX5_tells 6 (some .int) 2 := ⟨⟨(gm5 (i := 210) (by decide +kernel) rfl), (gp4 (y := yX5_tells) (i := 10) (n := 12) (by decide +kernel) rfl), (gm1 (i := 10) (by decide +kernel) rfl), (gm5 (i := 211) rfl rfl)⟩, rfl, (gdec (by decide +kernel) (by decide +kernel) (by decide +kernel))⟩
theorem k_X5_disagreeing : gKV RX5 yX5_disagreeing cX5_disagreeing 4 (some .int) 1 := ⟨⟨(gm6 (i := 84) (by decide +kernel) rfl), (gp5 (y := yX5_disagreeing) (i := 5) (n := 12) (by decide +kernel) rfl), (gm1 (i := 10) (by decide +kernel) rfl), (gm6 (i := 85) rfl rfl)⟩, rfl, (gdec (by decide +kernel) (by decide +kernel) (by decide +kernel))⟩
theorem k_X5_disagreeingAll : gKV RX5 yX5_disagreeingAll cX5_disagreeingAll 3 (some .int) 1 := ⟨⟨(gm6 (i := 80) (by decide +kernel) rfl), (gp5 (y := yX5_disagreeingAll) (i := 4) (n := 12) (by decide +kernel) rfl), (gm1 (i := 10) (by decide +kernel) rfl), (gm6 (i := 81) rfl rfl)⟩, rfl, (gdec (by decide +kernel) (by decide +kernel) (by decide +kernel))⟩
theorem k_X5_isBlank : gKV RX5 yX5_isBlank cX5_isBlank 5 (some .boolean) 2 := ⟨⟨(gm5 (i := 159) (by decide +kernel) rfl), (gp4 (y := yX5_isBlank) (i := 1) (n := 12) (by decide +kernel) rfl), (gm1 (i := 10) (by decide +kernel) rfl), (gm5 (i := 160) rfl rfl)⟩, rfl, (gdec (by decide +kernel) (by decide +kernel) (by decide +kernel))⟩
theorem k_X5_punches : gKV RX5 yX5_punches cX5_punches 7 (some .int) 3 := ⟨⟨(gm5 (i := 179) (by decide +kernel) rfl), (gp4 (y := yX5_punches) (i := 6) (n := 12) (by decide +kernel) rfl), (gm1 (i := 10) (by decide +kernel) rfl), (gm5 (i := 180) rfl rfl)⟩, rfl, (gdec (by decide +kernel) (by decide +kernel) (by decide +kernel))⟩
theorem k_X5_canClose : gKV RX5 yX5_canClose cX5_canClose 4 (some .boolean) 1 := ⟨⟨(gm5 (i := 187) (by decide +kernel) rfl), (gp4 (y := yX5_canClose) (i := 7) (n := 12) (by decide +kernel) rfl), (gm1 (i := 10) (by decide +kernel) rfl), (gm5 (i := 188) rfl rfl)⟩, rfl, (gdec (by decide +kernel) (by decide +kernel) (by decide +kernel))⟩
theorem k_X5_closes : gKV RX5 yX5_closes cX5_closes 6 (some .int) 1 := ⟨⟨(gm5 (i := 194) (by decide +kernel) rfl), (gp4 (y := yX5_closes) (i := 8) (n := 12) (by decide +kernel) rfl), (gm1 (i := 10) (by decide +kernel) rfl), (gm5 (i := 195) rfl rfl)⟩, rfl, (gdec (by decide +kernel) (by decide +kernel) (by decide +kernel))⟩
theorem k_X5_copies : gKV RX5 yX5_copies cX5_copies 4 none 2 := ⟨⟨(gm5 (i := 175) (by decide +kernel) rfl), (gp4 (y := yX5_copies) (i := 5) (n := 12) (by decide +kernel) rfl), (gm1 (i := 10) (by decide +kernel) rfl), (gm5 (i := 176) rfl rfl)⟩, rfl, (gdec (by decide +kernel) (by decide +kernel) (by decide +kernel))⟩
theorem k_X5_save : gKV RX5 yX5_save cX5_save 2 none 0 := ⟨⟨(gm5 (i := 171) (by decide +kernel) rfl), (gp4 (y := yX5_save) (i := 4) (n := 12) (by decide +kernel) rfl), (gm1 (i := 10) (by decide +kernel) rfl), (gm5 (i := 172) rfl rfl)⟩, rfl, (gdec (by decide +kernel) (by decide +kernel) (by decide +kernel))⟩
theorem k_X5_punch : gKV RX5 yX5_punch cX5_punch 5 (some .int) 3 := ⟨⟨(gm5 (i := 148) (by decide +kernel) rfl), (gm5 (i := 149) (by decide +kernel) rfl), (gm1 (i := 10) (by decide +kernel) rfl), (gm5 (i := 150) rfl rfl)⟩, rfl, (gdec (by decide +kernel) (by decide +kernel) (by decide +kernel))⟩
theorem k_X5_close : gKV RX5 yX5_close cX5_close 3 (some .int) 1 := ⟨⟨(gm5 (i := 182) (by decide +kernel) rfl), (gm5 (i := 183) (by decide +kernel) rfl), (gm1 (i := 10) (by decide +kernel) rfl), (gm5 (i := 184) rfl rfl)⟩, rfl, (gdec (by decide +kernel) (by decide +kernel) (by decide +kernel))⟩
theorem k_X5_renew : gKV RX5 yX5_renew cX5_renew 3 (some .int) 1 := ⟨⟨(gm5 (i := 197) (by decide +kernel) rfl), (gm5 (i := 198) (by decide +kernel) rfl), (gm1 (i := 10) (by decide +kernel) rfl), (gm5 (i := 199) rfl rfl)⟩, rfl, (gdec (by decide +kernel) (by decide +kernel) (by decide +kernel))⟩
theorem k_X5_copy : gKV RX5 yX5_copy cX5_copy 5 (some .int) 2 := ⟨⟨(gm5 (i := 205) (by decide +kernel) rfl), (gm5 (i := 206) (by decide +kernel) rfl), (gm1 (i := 10) (by decide +kernel) rfl), (gm5 (i := 207) rfl rfl)⟩, rfl, (gdec (by decide +kernel) (by decide +kernel) (by decide +kernel))⟩
theorem k_X5_changes : gKV RX5 yX5_changes cX5_changes 7 (some .int) 4 := ⟨⟨(gm5 (i := 233) (by decide +kernel) rfl), (gp4 (y := yX5_changes) (i := 14) (n := 12) (by decide +kernel) rfl), (gm1 (i := 10) (by decide +kernel) rfl), (gm5 (i := 234) rfl rfl)⟩, rfl, (gdec (by decide +kernel) (by decide +kernel) (by decide +kernel))⟩
theorem k_X5_wear : gKV RX5 yX5_wear cX5_wear 4 (some .int) 3 := ⟨⟨(gm5 (i := 228) (by decide +kernel) rfl), (gm5 (i := 229) (by decide +kernel) rfl), (gm1 (i := 10) (by decide +kernel) rfl), (gm5 (i := 230) rfl rfl)⟩, rfl, (gdec (by decide +kernel) (by decide +kernel) (by decide +kernel))⟩
theorem k_X5_lose : gKV RX5 yX5_lose cX5_lose 4 (some .int) 3 := ⟨⟨(gm6 (i := 19) (by decide +kernel) rfl), (gm6 (i := 20) (by decide +kernel) rfl), (gm1 (i := 10) (by decide +kernel) rfl), (gm6 (i := 21) rfl rfl)⟩, rfl, (gdec (by decide +kernel) (by decide +kernel) (by decide +kernel))⟩
theorem k_X5_turn : gKV RX5 yX5_turn cX5_turn 4 (some .int) 2 := ⟨⟨(gm6 (i := 23) (by decide +kernel) rfl), (gm6 (i := 24) (by decide +kernel) rfl), (gm1 (i := 10) (by decide +kernel) rfl), (gm6 (i := 25) rfl rfl)⟩, rfl, (gdec (by decide +kernel) (by decide +kernel) (by decide +kernel))⟩
theorem k_X5_view : gKV RX5 yX5_view cX5_view 2 (some .int) 1 := ⟨⟨(gm6 (i := 27) (by decide +kernel) rfl), (gm6 (i := 28) (by decide +kernel) rfl), (gm1 (i := 10) (by decide +kernel) rfl), (gm6 (i := 29) rfl rfl)⟩, rfl, (gdec (by decide +kernel) (by decide +kernel) (by decide +kernel))⟩
theorem k_X5_sees : gKV RX5 yX5_sees cX5_sees 4 (some .boolean) 3 := ⟨⟨(gm6 (i := 31) (by decide +kernel) rfl), (gm6 (i := 32) (by decide +kernel) rfl), (gm1 (i := 10) (by decide +kernel) rfl), (gm6 (i := 33) rfl rfl)⟩, rfl, (gdec (by decide +kernel) (by decide +kernel) (by decide +kernel))⟩
theorem k_X5_raw : gKV RX5 yX5_raw cX5_raw 3 (some .int) 2 := ⟨⟨(gm6 (i := 35) (by decide +kernel) rfl), (gm6 (i := 36) (by decide +kernel) rfl), (gm1 (i := 10) (by decide +kernel) rfl), (gm6 (i := 37) rfl rfl)⟩, rfl, (gdec (by decide +kernel) (by decide +kernel) (by decide +kernel))⟩
theorem k_X5_kind : gKV RX5 yX5_kind cX5_kind 4 (some .int) 3 := ⟨⟨(gm6 (i := 43) (by decide +kernel) rfl), (gm6 (i := 44) (by decide +kernel) rfl), (gm1 (i := 10) (by decide +kernel) rfl), (gm6 (i := 45) rfl rfl)⟩, rfl, (gdec (by decide +kernel) (by decide +kernel) (by decide +kernel))⟩
theorem k_X5_told : gKV RX5 yX5_told cX5_told 4 (some .int) 3 := ⟨⟨(gm6 (i := 47) (by decide +kernel) rfl), (gm6 (i := 48) (by decide +kernel) rfl), (gm1 (i := 10) (by decide +kernel) rfl), (gm6 (i := 49) rfl rfl)⟩, rfl, (gdec (by decide +kernel) (by decide +kernel) (by decide +kernel))⟩
theorem k_X5_count : gKV RX5 yX5_count cX5_count 3 (some .int) 2 := ⟨⟨(gm6 (i := 51) (by decide +kernel) rfl), (gm6 (i := 52) (by decide +kernel) rfl), (gm1 (i := 10) (by decide +kernel) rfl), (gm6 (i := 53) rfl rfl)⟩, rfl, (gdec (by decide +kernel) (by decide +kernel) (by decide +kernel))⟩
theorem k_X5_readOf : gKV RX5 yX5_readOf cX5_readOf 6 (some .int) 2 := ⟨⟨(gm6 (i := 60) (by decide +kernel) rfl), (gp5 (y := yX5_readOf) (i := 2) (n := 12) (by decide +kernel) rfl), (gm1 (i := 10) (by decide +kernel) rfl), (gm6 (i := 61) rfl rfl)⟩, rfl, (gdec (by decide +kernel) (by decide +kernel) (by decide +kernel))⟩
theorem k_X5_toldOf : gKV RX5 yX5_toldOf cX5_toldOf 5 (some .int) 1 := ⟨⟨(gm6 (i := 68) (by decide +kernel) rfl), (gp5 (y := yX5_toldOf) (i := 3) (n := 12) (by decide +kernel) rfl), (gm1 (i := 10) (by decide +kernel) rfl), (gm6 (i := 69) rfl rfl)⟩, rfl, (gdec (by decide +kernel) (by decide +kernel) (by decide +kernel))⟩
theorem k_X5_read : gKV RX5 yX5_read cX5_read 3 (some .int) 2 := ⟨⟨(gm6 (i := 55) (by decide +kernel) rfl), (gm6 (i := 56) (by decide +kernel) rfl), (gm1 (i := 10) (by decide +kernel) rfl), (gm6 (i := 57) rfl rfl)⟩, rfl, (gdec (by decide +kernel) (by decide +kernel) (by decide +kernel))⟩
theorem k_X5_value : gKV RX5 yX5_value cX5_value 3 (some .int) 2 := ⟨⟨(gm6 (i := 63) (by decide +kernel) rfl), (gm6 (i := 64) (by decide +kernel) rfl), (gm1 (i := 10) (by decide +kernel) rfl), (gm6 (i := 65) rfl rfl)⟩, rfl, (gdec (by decide +kernel) (by decide +kernel) (by decide +kernel))⟩
theorem k_X5_untold : gKV RX5 yX5_untold cX5_untold 2 (some .int) 1 := ⟨⟨(gm6 (i := 71) (by decide +kernel) rfl), (gm6 (i := 72) (by decide +kernel) rfl), (gm1 (i := 10) (by decide +kernel) rfl), (gm6 (i := 73) rfl rfl)⟩, rfl, (gdec (by decide +kernel) (by decide +kernel) (by decide +kernel))⟩
theorem k_X5_disagreements : gKV RX5 yX5_disagreements cX5_disagreements 2 (some .int) 1 := ⟨⟨(gm6 (i := 75) (by decide +kernel) rfl), (gm6 (i := 76) (by decide +kernel) rfl), (gm1 (i := 10) (by decide +kernel) rfl), (gm6 (i := 77) rfl rfl)⟩, rfl, (gdec (by decide +kernel) (by decide +kernel) (by decide +kernel))⟩
theorem k_X5_disagreement : gKV RX5 yX5_disagreement cX5_disagreement 3 (some .int) 2 := ⟨⟨(gm6 (i := 87) (by decide +kernel) rfl), (gm6 (i := 88) (by decide +kernel) rfl), (gm1 (i := 10) (by decide +kernel) rfl), (gm6 (i := 89) rfl rfl)⟩, rfl, (gdec (by decide +kernel) (by decide +kernel) (by decide +kernel))⟩
theorem k_X5_soundShare : gKV RX5 yX5_soundShare cX5_soundShare 2 (some .double) 1 := ⟨⟨(gm6 (i := 91) (by decide +kernel) rfl), (gm6 (i := 92) (by decide +kernel) rfl), (gm1 (i := 10) (by decide +kernel) rfl), (gm6 (i := 93) rfl rfl)⟩, rfl, (gdec (by decide +kernel) (by decide +kernel) (by decide +kernel))⟩
theorem k_X5_untoldBut : gKV RX5 yX5_untoldBut cX5_untoldBut 3 (some .int) 2 := ⟨⟨(gm6 (i := 101) (by decide +kernel) rfl), (gp5 (y := yX5_untoldBut) (i := 6) (n := 12) (by decide +kernel) rfl), (gm1 (i := 10) (by decide +kernel) rfl), (gm6 (i := 102) rfl rfl)⟩, rfl, (gdec (by decide +kernel) (by decide +kernel) (by decide +kernel))⟩
theorem k_X5_untoldIf : gKV RX5 yX5_untoldIf cX5_untoldIf 4 (some .int) 3 := ⟨⟨(gm6 (i := 96) (by decide +kernel) rfl), (gm6 (i := 97) (by decide +kernel) rfl), (gm1 (i := 10) (by decide +kernel) rfl), (gm6 (i := 98) rfl rfl)⟩, rfl, (gdec (by decide +kernel) (by decide +kernel) (by decide +kernel))⟩
theorem k_X5_worstOf : gKV RX5 yX5_worstOf cX5_worstOf 6 (some .int) 1 := ⟨⟨(gm6 (i := 109) (by decide +kernel) rfl), (gp5 (y := yX5_worstOf) (i := 7) (n := 12) (by decide +kernel) rfl), (gm1 (i := 10) (by decide +kernel) rfl), (gm6 (i := 110) rfl rfl)⟩, rfl, (gdec (by decide +kernel) (by decide +kernel) (by decide +kernel))⟩
theorem k_X5_worst : gKV RX5 yX5_worst cX5_worst 2 (some .int) 1 := ⟨⟨(gm6 (i := 104) (by decide +kernel) rfl), (gm6 (i := 105) (by decide +kernel) rfl), (gm1 (i := 10) (by decide +kernel) rfl), (gm6 (i := 106) rfl rfl)⟩, rfl, (gdec (by decide +kernel) (by decide +kernel) (by decide +kernel))⟩
theorem k_X5_difference : gKV RX5 yX5_difference cX5_difference 10 (some .int) 2 := ⟨⟨(gm6 (i := 112) (by decide +kernel) rfl), (gm6 (i := 113) (by decide +kernel) rfl), (gm1 (i := 10) (by decide +kernel) rfl), (gm6 (i := 114) rfl rfl)⟩, rfl, (gdec (by decide +kernel) (by decide +kernel) (by decide +kernel))⟩
theorem k_X5_append : gKV RX5 yX5_append cX5_append 2 (some .int) 1 := ⟨⟨(gm6 (i := 116) (by decide +kernel) rfl), (gm6 (i := 117) (by decide +kernel) rfl), (gm1 (i := 10) (by decide +kernel) rfl), (gm6 (i := 118) rfl rfl)⟩, rfl, (gdec (by decide +kernel) (by decide +kernel) (by decide +kernel))⟩
theorem k_X5_clearText : gKV RX5 yX5_clearText cX5_clearText 2 (some .int) 0 := ⟨⟨(gm6 (i := 120) (by decide +kernel) rfl), (gm6 (i := 121) (by decide +kernel) rfl), (gm1 (i := 10) (by decide +kernel) rfl), (gm6 (i := 122) rfl rfl)⟩, rfl, (gdec (by decide +kernel) (by decide +kernel) (by decide +kernel))⟩
theorem k_X5_sign : gKV RX5 yX5_sign cX5_sign 1 (some .int) 0 := ⟨⟨(gm6 (i := 137) (by decide +kernel) rfl), (gp5 (y := yX5_sign) (i := 10) (n := 12) (by decide +kernel) rfl), (gm1 (i := 10) (by decide +kernel) rfl), (gm6 (i := 138) rfl rfl)⟩, rfl, (gdec (by decide +kernel) (by decide +kernel) (by decide +kernel))⟩
theorem k_X5_takes : gKV RX5 yX5_takes cX5_takes 3 (some .boolean) 1 := ⟨⟨(gm6 (i := 141) (by decide +kernel) rfl), (gp5 (y := yX5_takes) (i := 11) (n := 12) (by decide +kernel) rfl), (gm1 (i := 10) (by decide +kernel) rfl), (gm6 (i := 142) rfl rfl)⟩, rfl, (gdec (by decide +kernel) (by decide +kernel) (by decide +kernel))⟩
theorem k_X5_figure : gKV RX5 yX5_figure cX5_figure 3 (some .int) 1 := ⟨⟨(gm6 (i := 145) (by decide +kernel) rfl), (gp5 (y := yX5_figure) (i := 12) (n := 12) (by decide +kernel) rfl), (gm1 (i := 10) (by decide +kernel) rfl), (gm6 (i := 146) rfl rfl)⟩, rfl, (gdec (by decide +kernel) (by decide +kernel) (by decide +kernel))⟩
theorem k_X5_readsValue : gKV RX5 yX5_readsValue cX5_readsValue 1 (some .boolean) 0 := ⟨⟨(gm6 (i := 149) (by decide +kernel) rfl), (gp5 (y := yX5_readsValue) (i := 13) (n := 12) (by decide +kernel) rfl), (gm1 (i := 10) (by decide +kernel) rfl), (gm6 (i := 150) rfl rfl)⟩, rfl, (gdec (by decide +kernel) (by decide +kernel) (by decide +kernel))⟩
theorem k_X5_readsPart : gKV RX5 yX5_readsPart cX5_readsPart 1 (some .boolean) 0 := ⟨⟨(gm6 (i := 133) (by decide +kernel) rfl), (gp5 (y := yX5_readsPart) (i := 9) (n := 12) (by decide +kernel) rfl), (gm1 (i := 10) (by decide +kernel) rfl), (gm6 (i := 134) rfl rfl)⟩, rfl, (gdec (by decide +kernel) (by decide +kernel) (by decide +kernel))⟩
theorem k_X5_isWork : gKV RX5 yX5_isWork cX5_isWork 1 (some .boolean) 0 := ⟨⟨(gm6 (i := 129) (by decide +kernel) rfl), (gp5 (y := yX5_isWork) (i := 8) (n := 12) (by decide +kernel) rfl), (gm1 (i := 10) (by decide +kernel) rfl), (gm6 (i := 130) rfl rfl)⟩, rfl, (gdec (by decide +kernel) (by decide +kernel) (by decide +kernel))⟩
theorem k_X5_firstError : gKV RX5 yX5_firstError cX5_firstError 1 (some .int) 0 := ⟨⟨(gm6 (i := 124) (by decide +kernel) rfl), (gm6 (i := 125) (by decide +kernel) rfl), (gm1 (i := 10) (by decide +kernel) rfl), (gm6 (i := 126) rfl rfl)⟩, rfl, (gdec (by decide +kernel) (by decide +kernel) (by decide +kernel))⟩
theorem k_X5_isDone : gKV RX5 yX5_isDone cX5_isDone 3 (some .boolean) 0 := ⟨⟨(gm6 (i := 157) (by decide +kernel) rfl), (gp5 (y := yX5_isDone) (i := 14) (n := 12) (by decide +kernel) rfl), (gm1 (i := 10) (by decide +kernel) rfl), (gm6 (i := 158) rfl rfl)⟩, rfl, (gdec (by decide +kernel) (by decide +kernel) (by decide +kernel))⟩
theorem k_X5_run : gKV RX5 yX5_run cX5_run 2 (some .int) 0 := ⟨⟨(gm6 (i := 152) (by decide +kernel) rfl), (gm6 (i := 153) (by decide +kernel) rfl), (gm1 (i := 10) (by decide +kernel) rfl), (gm6 (i := 154) rfl rfl)⟩, rfl, (gdec (by decide +kernel) (by decide +kernel) (by decide +kernel))⟩
theorem k_X5_undo : gKV RX5 yX5_undo cX5_undo 1 (some .int) 0 := ⟨⟨(gm6 (i := 160) (by decide +kernel) rfl), (gm6 (i := 161) (by decide +kernel) rfl), (gm1 (i := 10) (by decide +kernel) rfl), (gm6 (i := 162) rfl rfl)⟩, rfl, (gdec (by decide +kernel) (by decide +kernel) (by decide +kernel))⟩
theorem k_X5_savedStates : gKV RX5 yX5_savedStates cX5_savedStates 1 (some .int) 0 := ⟨⟨(gm6 (i := 164) (by decide +kernel) rfl), (gm6 (i := 165) (by decide +kernel) rfl), (gm1 (i := 10) (by decide +kernel) rfl), (gm6 (i := 166) rfl rfl)⟩, rfl, (gdec (by decide +kernel) (by decide +kernel) (by decide +kernel))⟩
theorem k_X5_mix : gKV RX5 yX5_mix cX5_mix 3 none 1 := ⟨⟨(gm6 (i := 174) (by decide +kernel) rfl), (gp5 (y := yX5_mix) (i := 15) (n := 12) (by decide +kernel) rfl), (gm1 (i := 10) (by decide +kernel) rfl), (gm6 (i := 175) rfl rfl)⟩, rfl, (gdec (by decide +kernel) (by decide +kernel) (by decide +kernel))⟩
theorem k_X5_digest : gKV RX5 yX5_digest cX5_digest 3 (some .long) 0 := ⟨⟨(gm6 (i := 168) (by decide +kernel) rfl), (gm6 (i := 169) (by decide +kernel) rfl), (gm1 (i := 10) (by decide +kernel) rfl), (gm6 (i := 170) rfl rfl)⟩, rfl, (gdec (by decide +kernel) (by decide +kernel) (by decide +kernel))⟩
theorem k_J5_init_d00df : gKI yJ5_init_d00df cJ5_init_d00df 2 1 := ⟨⟨(gm1 (i := 122) (by decide +kernel) rfl), (gm1 (i := 6) (by decide +kernel) rfl), (gm1 (i := 123) rfl rfl)⟩, rfl, (gdec (by decide +kernel) (by decide +kernel) (by decide +kernel))⟩
theorem k_Jx00060_init_d00df : gKI yJx00060_init_d00df cJx00060_init_d00df 2 1 := ⟨⟨(gm3 (i := 21) (by decide +kernel) rfl), (gm1 (i := 26) (by decide +kernel) rfl), (gm3 (i := 22) rfl rfl)⟩, rfl, (gdec (by decide +kernel) (by decide +kernel) (by decide +kernel))⟩
theorem k_J6_getChars_ba4f3 : gKS yJ6_getChars_ba4f3 cJ6_getChars_ba4f3 7 (some .int) 3 := ⟨⟨(gm2 (i := 85) (by decide +kernel) rfl), (gm1 (i := 17) (by decide +kernel) rfl), (gm2 (i := 86) rfl rfl)⟩, (gdec (by decide +kernel) (by decide +kernel) (by decide +kernel))⟩
theorem k_J6_stringSize_0f7a4 : gKS yJ6_stringSize_0f7a4 cJ6_stringSize_0f7a4 4 (some .int) 1 := ⟨⟨(gm2 (i := 82) (by decide +kernel) rfl), (gm1 (i := 17) (by decide +kernel) rfl), (gm2 (i := 83) rfl rfl)⟩, (gdec (by decide +kernel) (by decide +kernel) (by decide +kernel))⟩
theorem k_J6_bitCount_0f7a4 : gKS yJ6_bitCount_0f7a4 cJ6_bitCount_0f7a4 1 (some .int) 1 := ⟨⟨(gm4 (i := 70) (by decide +kernel) rfl), (gm1 (i := 17) (by decide +kernel) rfl), (gm4 (i := 71) rfl rfl)⟩, (gdec (by decide +kernel) (by decide +kernel) (by decide +kernel))⟩
theorem k_J13_bitCount_95d88 : gKS yJ13_bitCount_95d88 cJ13_bitCount_95d88 2 (some .int) 1 := ⟨⟨(gm3 (i := 134) (by decide +kernel) rfl), (gm1 (i := 18) (by decide +kernel) rfl), (gm3 (i := 135) rfl rfl)⟩, (gdec (by decide +kernel) (by decide +kernel) (by decide +kernel))⟩
theorem k_J9_max_7cf53 : gKS yJ9_max_7cf53 cJ9_max_7cf53 2 (some .int) 2 := ⟨⟨(gm1 (i := 217) (by decide +kernel) rfl), (gm1 (i := 20) (by decide +kernel) rfl), (gm1 (i := 218) rfl rfl)⟩, (gdec (by decide +kernel) (by decide +kernel) (by decide +kernel))⟩
theorem k_J9_min_7cf53 : gKS yJ9_min_7cf53 cJ9_min_7cf53 2 (some .int) 2 := ⟨⟨(gm1 (i := 235) (by decide +kernel) rfl), (gm1 (i := 20) (by decide +kernel) rfl), (gm1 (i := 236) rfl rfl)⟩, (gdec (by decide +kernel) (by decide +kernel) (by decide +kernel))⟩
theorem k_J0_init_81219 : gKI yJ0_init_81219 cJ0_init_81219 2 1 := ⟨⟨(gm2 (i := 106) (by decide +kernel) rfl), (gm1 (i := 8) (by decide +kernel) rfl), (gm2 (i := 107) rfl rfl)⟩, rfl, (gdec (by decide +kernel) (by decide +kernel) (by decide +kernel))⟩
theorem k_J0_length_8abf5 : gKV RJ0 yJ0_length_8abf5 cJ0_length_8abf5 1 (some .int) 0 := ⟨⟨(gm2 (i := 32) (by decide +kernel) rfl), (gm2 (i := 33) (by decide +kernel) rfl), (gm1 (i := 8) (by decide +kernel) rfl), (gm2 (i := 34) rfl rfl)⟩, rfl, (gdec (by decide +kernel) (by decide +kernel) (by decide +kernel))⟩
theorem k_J0_getBytes_840e7 : gKV RJ0 yJ0_getBytes_840e7 cJ0_getBytes_840e7 4 none 3 := ⟨⟨(gm2 (i := 69) (by decide +kernel) rfl), (gm2 (i := 70) (by decide +kernel) rfl), (gm1 (i := 8) (by decide +kernel) rfl), (gm2 (i := 71) rfl rfl)⟩, rfl, (gdec (by decide +kernel) (by decide +kernel) (by decide +kernel))⟩
theorem k_J0_init_db425 : gKI yJ0_init_db425 cJ0_init_db425 5 2 := ⟨⟨(gm2 (i := 109) (by decide +kernel) rfl), (gm1 (i := 8) (by decide +kernel) rfl), (gm2 (i := 110) rfl rfl)⟩, rfl, (gdec (by decide +kernel) (by decide +kernel) (by decide +kernel))⟩
theorem k_J0_coder_7d493 : gKV RJ0 yJ0_coder_7d493 cJ0_coder_7d493 1 (some .byte) 0 := ⟨⟨(gm2 (i := 36) (by decide +kernel) rfl), (gm2 (i := 37) (by decide +kernel) rfl), (gm1 (i := 8) (by decide +kernel) rfl), (gm2 (i := 38) rfl rfl)⟩, rfl, (gdec (by decide +kernel) (by decide +kernel) (by decide +kernel))⟩
theorem k_J0_checkIndex_df160 : gKS yJ0_checkIndex_df160 cJ0_checkIndex_df160 2 none 2 := ⟨⟨(gm3 (i := 57) (by decide +kernel) rfl), (gm1 (i := 8) (by decide +kernel) rfl), (gm3 (i := 58) rfl rfl)⟩, (gdec (by decide +kernel) (by decide +kernel) (by decide +kernel))⟩
theorem k_J0_checkBoundsOffCount_cabcc : gKS yJ0_checkBoundsOffCount_cabcc cJ0_checkBoundsOffCount_cabcc 3 (some .int) 3 := ⟨⟨(gm2 (i := 63) (by decide +kernel) rfl), (gm1 (i := 8) (by decide +kernel) rfl), (gm2 (i := 64) rfl rfl)⟩, (gdec (by decide +kernel) (by decide +kernel) (by decide +kernel))⟩
theorem k_J0_checkBoundsBeginEnd_23922 : gKS yJ0_checkBoundsBeginEnd_23922 cJ0_checkBoundsBeginEnd_23922 3 none 3 := ⟨⟨(gm2 (i := 15) (by decide +kernel) rfl), (gm1 (i := 8) (by decide +kernel) rfl), (gm2 (i := 16) rfl rfl)⟩, (gdec (by decide +kernel) (by decide +kernel) (by decide +kernel))⟩
theorem k_J4_init_da8c8 : gKI yJ4_init_da8c8 cJ4_init_da8c8 1 0 := ⟨⟨(gm1 (i := 119) (by decide +kernel) rfl), (gm1 (i := 7) (by decide +kernel) rfl), (gm1 (i := 120) rfl rfl)⟩, rfl, (gdec (by decide +kernel) (by decide +kernel) (by decide +kernel))⟩
theorem k_J4_append_15ec4 : gKV RJ4 yJ4_append_15ec4 cJ4_append_15ec4 2 (some (.object "java/lang/StringBuilder")) 1 := ⟨⟨(gm1 (i := 195) (by decide +kernel) rfl), (gm1 (i := 196) (by decide +kernel) rfl), (gm1 (i := 7) (by decide +kernel) rfl), (gm1 (i := 197) rfl rfl)⟩, rfl, (gdec (by decide +kernel) (by decide +kernel) (by decide +kernel))⟩
theorem k_J4_append_cf468 : gKV RJ4 yJ4_append_cf468 cJ4_append_cf468 2 (some (.object "java/lang/StringBuilder")) 1 := ⟨⟨(gm5 (i := 33) (by decide +kernel) rfl), (gm5 (i := 34) (by decide +kernel) rfl), (gm1 (i := 7) (by decide +kernel) rfl), (gm5 (i := 35) rfl rfl)⟩, rfl, (gdec (by decide +kernel) (by decide +kernel) (by decide +kernel))⟩
theorem k_J4_append_bf812 : gKV RJ4 yJ4_append_bf812 cJ4_append_bf812 2 (some (.object "java/lang/StringBuilder")) 1 := ⟨⟨(gm2 (i := 75) (by decide +kernel) rfl), (gm2 (i := 76) (by decide +kernel) rfl), (gm1 (i := 7) (by decide +kernel) rfl), (gm2 (i := 77) rfl rfl)⟩, rfl, (gdec (by decide +kernel) (by decide +kernel) (by decide +kernel))⟩
theorem k_J4_toString_0e30d : gKV RJ4 yJ4_toString_0e30d cJ4_toString_0e30d 1 (some (.object "java/lang/String")) 0 := ⟨⟨(gm2 (i := 100) (by decide +kernel) rfl), (gm2 (i := 101) (by decide +kernel) rfl), (gm1 (i := 7) (by decide +kernel) rfl), (gm2 (i := 102) rfl rfl)⟩, rfl, (gdec (by decide +kernel) (by decide +kernel) (by decide +kernel))⟩
theorem k_J4_charAt_5068e : gKV RJ4 yJ4_charAt_5068e cJ4_charAt_5068e 2 (some .char) 1 := ⟨⟨(gm3 (i := 49) (by decide +kernel) rfl), (gm3 (i := 50) (by decide +kernel) rfl), (gm1 (i := 7) (by decide +kernel) rfl), (gm3 (i := 51) rfl rfl)⟩, rfl, (gdec (by decide +kernel) (by decide +kernel) (by decide +kernel))⟩
theorem k_J4_setLength_d00df : gKV RJ4 yJ4_setLength_d00df cJ4_setLength_d00df 2 none 1 := ⟨⟨(gm1 (i := 180) (by decide +kernel) rfl), (gm1 (i := 181) (by decide +kernel) rfl), (gm1 (i := 7) (by decide +kernel) rfl), (gm1 (i := 182) rfl rfl)⟩, rfl, (gdec (by decide +kernel) (by decide +kernel) (by decide +kernel))⟩
theorem k_J4_length_8abf5 : gKV RJ4 yJ4_length_8abf5 cJ4_length_8abf5 1 (some .int) 0 := ⟨⟨(gm1 (i := 173) (by decide +kernel) rfl), (gm1 (i := 174) (by decide +kernel) rfl), (gm1 (i := 7) (by decide +kernel) rfl), (gm1 (i := 175) rfl rfl)⟩, rfl, (gdec (by decide +kernel) (by decide +kernel) (by decide +kernel))⟩
theorem k_Jx7c733_init_d00df : gKI yJx7c733_init_d00df cJx7c733_init_d00df 2 1 := ⟨⟨(gm1 (i := 189) (by decide +kernel) rfl), (gm1 (i := 25) (by decide +kernel) rfl), (gm1 (i := 190) rfl rfl)⟩, rfl, (gdec (by decide +kernel) (by decide +kernel) (by decide +kernel))⟩
theorem k_J1_canEncode_fc78d : gKS yJ1_canEncode_fc78d cJ1_canEncode_fc78d 1 (some .boolean) 1 := ⟨⟨(gm5 (i := 40) (by decide +kernel) rfl), (gm1 (i := 23) (by decide +kernel) rfl), (gm5 (i := 41) rfl rfl)⟩, (gdec (by decide +kernel) (by decide +kernel) (by decide +kernel))⟩
theorem k_J1_fillNull_b72d1 : gKS yJ1_fillNull_b72d1 cJ1_fillNull_b72d1 3 none 3 := ⟨⟨(gm2 (i := 238) (by decide +kernel) rfl), (gm1 (i := 23) (by decide +kernel) rfl), (gm2 (i := 239) rfl rfl)⟩, (gdec (by decide +kernel) (by decide +kernel) (by decide +kernel))⟩
theorem k_J1_inflate_0e8fd : gKS yJ1_inflate_0e8fd cJ1_inflate_0e8fd 5 none 5 := ⟨⟨(gm2 (i := 54) (by decide +kernel) rfl), (gm1 (i := 23) (by decide +kernel) rfl), (gm2 (i := 55) rfl rfl)⟩, (gdec (by decide +kernel) (by decide +kernel) (by decide +kernel))⟩
theorem k_J2_newBytesFor_77867 : gKS yJ2_newBytesFor_77867 cJ2_newBytesFor_77867 1 (some (.array .byte)) 1 := ⟨⟨(gm1 (i := 128) (by decide +kernel) rfl), (gm1 (i := 9) (by decide +kernel) rfl), (gm1 (i := 129) rfl rfl)⟩, (gdec (by decide +kernel) (by decide +kernel) (by decide +kernel))⟩
theorem k_J2_newBytesLength_0f7a4 : gKS yJ2_newBytesLength_0f7a4 cJ2_newBytesLength_0f7a4 1 (some .int) 1 := ⟨⟨(gm1 (i := 131) (by decide +kernel) rfl), (gm1 (i := 9) (by decide +kernel) rfl), (gm1 (i := 132) rfl rfl)⟩, (gdec (by decide +kernel) (by decide +kernel) (by decide +kernel))⟩
theorem k_J2_putChar_b72d1 : gKS yJ2_putChar_b72d1 cJ2_putChar_b72d1 3 none 3 := ⟨⟨(gm2 (i := 23) (by decide +kernel) rfl), (gm1 (i := 9) (by decide +kernel) rfl), (gm2 (i := 24) rfl rfl)⟩, (gdec (by decide +kernel) (by decide +kernel) (by decide +kernel))⟩
theorem k_J2_getChar_3b067 : gKS yJ2_getChar_3b067 cJ2_getChar_3b067 2 (some .char) 2 := ⟨⟨(gm2 (i := 209) (by decide +kernel) rfl), (gm1 (i := 9) (by decide +kernel) rfl), (gm2 (i := 210) rfl rfl)⟩, (gdec (by decide +kernel) (by decide +kernel) (by decide +kernel))⟩
theorem k_J2_length_9d52b : gKS yJ2_length_9d52b cJ2_length_9d52b 1 (some .int) 1 := ⟨⟨(gm2 (i := 12) (by decide +kernel) rfl), (gm1 (i := 9) (by decide +kernel) rfl), (gm2 (i := 13) rfl rfl)⟩, (gdec (by decide +kernel) (by decide +kernel) (by decide +kernel))⟩
theorem k_J2_coderFromArrayLen_85cad : gKS yJ2_coderFromArrayLen_85cad cJ2_coderFromArrayLen_85cad 2 (some .byte) 2 := ⟨⟨(gm2 (i := 213) (by decide +kernel) rfl), (gm1 (i := 9) (by decide +kernel) rfl), (gm2 (i := 214) rfl rfl)⟩, (gdec (by decide +kernel) (by decide +kernel) (by decide +kernel))⟩
theorem k_J2_compress_39247 : gKS yJ2_compress_39247 cJ2_compress_39247 6 (some (.array .byte)) 3 := ⟨⟨(gm2 (i := 203) (by decide +kernel) rfl), (gm1 (i := 9) (by decide +kernel) rfl), (gm2 (i := 204) rfl rfl)⟩, (gdec (by decide +kernel) (by decide +kernel) (by decide +kernel))⟩
theorem k_J2_compress_5af95 : gKS yJ2_compress_5af95 cJ2_compress_5af95 7 (some .int) 5 := ⟨⟨(gm2 (i := 206) (by decide +kernel) rfl), (gm1 (i := 9) (by decide +kernel) rfl), (gm2 (i := 207) rfl rfl)⟩, (gdec (by decide +kernel) (by decide +kernel) (by decide +kernel))⟩
theorem k_J2_fillNull_b72d1 : gKS yJ2_fillNull_b72d1 cJ2_fillNull_b72d1 3 none 3 := ⟨⟨(gm3 (i := 33) (by decide +kernel) rfl), (gm1 (i := 9) (by decide +kernel) rfl), (gm3 (i := 34) rfl rfl)⟩, (gdec (by decide +kernel) (by decide +kernel) (by decide +kernel))⟩
theorem k_J2_putCharSB_b72d1 : gKS yJ2_putCharSB_b72d1 cJ2_putCharSB_b72d1 3 none 3 := ⟨⟨(gm5 (i := 43) (by decide +kernel) rfl), (gm1 (i := 9) (by decide +kernel) rfl), (gm5 (i := 44) rfl rfl)⟩, (gdec (by decide +kernel) (by decide +kernel) (by decide +kernel))⟩
theorem k_J2_getChars_46870 : gKS yJ2_getChars_46870 cJ2_getChars_46870 5 (some .int) 4 := ⟨⟨(gm2 (i := 92) (by decide +kernel) rfl), (gm1 (i := 9) (by decide +kernel) rfl), (gm2 (i := 93) rfl rfl)⟩, (gdec (by decide +kernel) (by decide +kernel) (by decide +kernel))⟩
theorem k_J2_putCharsAt_cd4e5 : gKS yJ2_putCharsAt_cd4e5 cJ2_putCharsAt_cd4e5 7 (some .int) 6 := ⟨⟨(gm2 (i := 6) (by decide +kernel) rfl), (gm1 (i := 9) (by decide +kernel) rfl), (gm2 (i := 7) rfl rfl)⟩, (gdec (by decide +kernel) (by decide +kernel) (by decide +kernel))⟩
theorem k_J2_inflate_0e8fd : gKS yJ2_inflate_0e8fd cJ2_inflate_0e8fd 6 none 5 := ⟨⟨(gm2 (i := 57) (by decide +kernel) rfl), (gm1 (i := 9) (by decide +kernel) rfl), (gm2 (i := 58) rfl rfl)⟩, (gdec (by decide +kernel) (by decide +kernel) (by decide +kernel))⟩
theorem k_J2_getChars_ba4f3 : gKS yJ2_getChars_ba4f3 cJ2_getChars_ba4f3 7 (some .int) 3 := ⟨⟨(gm2 (i := 95) (by decide +kernel) rfl), (gm1 (i := 9) (by decide +kernel) rfl), (gm2 (i := 96) rfl rfl)⟩, (gdec (by decide +kernel) (by decide +kernel) (by decide +kernel))⟩
theorem k_J2_checkIndex_2214a : gKS yJ2_checkIndex_2214a cJ2_checkIndex_2214a 2 none 2 := ⟨⟨(gm5 (i := 46) (by decide +kernel) rfl), (gm1 (i := 9) (by decide +kernel) rfl), (gm5 (i := 47) rfl rfl)⟩, (gdec (by decide +kernel) (by decide +kernel) (by decide +kernel))⟩
theorem k_J2_checkBoundsBeginEnd_d044e : gKS yJ2_checkBoundsBeginEnd_d044e cJ2_checkBoundsBeginEnd_d044e 3 none 3 := ⟨⟨(gm2 (i := 9) (by decide +kernel) rfl), (gm1 (i := 9) (by decide +kernel) rfl), (gm2 (i := 10) rfl rfl)⟩, (gdec (by decide +kernel) (by decide +kernel) (by decide +kernel))⟩
theorem k_J2_checkBoundsOffCount_d044e : gKS yJ2_checkBoundsOffCount_d044e cJ2_checkBoundsOffCount_d044e 3 none 3 := ⟨⟨(gm2 (i := 60) (by decide +kernel) rfl), (gm1 (i := 9) (by decide +kernel) rfl), (gm2 (i := 61) rfl rfl)⟩, (gdec (by decide +kernel) (by decide +kernel) (by decide +kernel))⟩
theorem k_J7_rangeCheck_23922 : gKS yJ7_rangeCheck_23922 cJ7_rangeCheck_23922 3 none 3 := ⟨⟨(gm3 (i := 4) (by decide +kernel) rfl), (gm1 (i := 21) (by decide +kernel) rfl), (gm3 (i := 5) rfl rfl)⟩, (gdec (by decide +kernel) (by decide +kernel) (by decide +kernel))⟩
theorem k_J7_fill_eb02e : gKS yJ7_fill_eb02e cJ7_fill_eb02e 5 none 4 := ⟨⟨(gm3 (i := 1) (by decide +kernel) rfl), (gm1 (i := 21) (by decide +kernel) rfl), (gm3 (i := 2) rfl rfl)⟩, (gdec (by decide +kernel) (by decide +kernel) (by decide +kernel))⟩
theorem k_J7_copyOf_9075b : gKS yJ7_copyOf_9075b cJ7_copyOf_9075b 3 (some (.array .byte)) 2 := ⟨⟨(gm1 (i := 225) (by decide +kernel) rfl), (gm1 (i := 21) (by decide +kernel) rfl), (gm1 (i := 226) rfl rfl)⟩, (gdec (by decide +kernel) (by decide +kernel) (by decide +kernel))⟩
theorem k_J7_checkLength_df160 : gKS yJ7_checkLength_df160 cJ7_checkLength_df160 2 none 2 := ⟨⟨(gm2 (i := 126) (by decide +kernel) rfl), (gm1 (i := 21) (by decide +kernel) rfl), (gm2 (i := 127) rfl rfl)⟩, (gdec (by decide +kernel) (by decide +kernel) (by decide +kernel))⟩
theorem k_J7_copyOfRange_39247 : gKS yJ7_copyOfRange_39247 cJ7_copyOfRange_39247 3 (some (.array .byte)) 3 := ⟨⟨(gm2 (i := 120) (by decide +kernel) rfl), (gm1 (i := 21) (by decide +kernel) rfl), (gm2 (i := 121) rfl rfl)⟩, (gdec (by decide +kernel) (by decide +kernel) (by decide +kernel))⟩
theorem k_J7_copyOfRangeByte_39247 : gKS yJ7_copyOfRangeByte_39247 cJ7_copyOfRangeByte_39247 5 (some (.array .byte)) 3 := ⟨⟨(gm2 (i := 123) (by decide +kernel) rfl), (gm1 (i := 21) (by decide +kernel) rfl), (gm2 (i := 124) rfl rfl)⟩, (gdec (by decide +kernel) (by decide +kernel) (by decide +kernel))⟩
theorem k_J8_newLength_cabcc : gKS yJ8_newLength_cabcc cJ8_newLength_cabcc 4 (some .int) 3 := ⟨⟨(gm1 (i := 214) (by decide +kernel) rfl), (gm1 (i := 19) (by decide +kernel) rfl), (gm1 (i := 215) rfl rfl)⟩, (gdec (by decide +kernel) (by decide +kernel) (by decide +kernel))⟩
theorem k_J8_hugeLength_7cf53 : gKS yJ8_hugeLength_7cf53 cJ8_hugeLength_7cf53 3 (some .int) 2 := ⟨⟨(gm1 (i := 221) (by decide +kernel) rfl), (gm1 (i := 19) (by decide +kernel) rfl), (gm1 (i := 222) rfl rfl)⟩, (gdec (by decide +kernel) (by decide +kernel) (by decide +kernel))⟩
theorem k_J3_checkIndex_8e157 : gKS yJ3_checkIndex_8e157 cJ3_checkIndex_8e157 3 (some .int) 3 := ⟨⟨(gm3 (i := 60) (by decide +kernel) rfl), (gm1 (i := 24) (by decide +kernel) rfl), (gm3 (i := 61) rfl rfl)⟩, (gdec (by decide +kernel) (by decide +kernel) (by decide +kernel))⟩
theorem k_J3_checkFromToIndex_8c36e : gKS yJ3_checkFromToIndex_8c36e cJ3_checkFromToIndex_8c36e 4 (some .int) 4 := ⟨⟨(gm2 (i := 20) (by decide +kernel) rfl), (gm1 (i := 24) (by decide +kernel) rfl), (gm2 (i := 21) rfl rfl)⟩, (gdec (by decide +kernel) (by decide +kernel) (by decide +kernel))⟩
theorem k_J3_checkFromIndexSize_8c36e : gKS yJ3_checkFromIndexSize_8c36e cJ3_checkFromIndexSize_8c36e 4 (some .int) 4 := ⟨⟨(gm2 (i := 66) (by decide +kernel) rfl), (gm1 (i := 24) (by decide +kernel) rfl), (gm2 (i := 67) rfl rfl)⟩, (gdec (by decide +kernel) (by decide +kernel) (by decide +kernel))⟩
theorem k_L_punch : gKH yL_punch cL_punch 6 (some .int) [((0 : Nat), (12 : Nat), (15 : Nat), (13 : Nat)), ((0 : Nat), (12 : Nat), (19 : Nat), (15 : Nat)), ((0 : Nat), (12 : Nat), (23 : Nat), (17 : Nat))] 5 := ⟨⟨(gm3 (i := 231) (by decide +kernel) rfl), (gm1 (i := 0) (by decide +kernel) rfl), (gm3 (i := 232) rfl rfl)⟩, (gdec (by decide +kernel) (by decide +kernel) (by decide +kernel))⟩
theorem k_L_close : gKH yL_close cL_close 4 (some .int) [((0 : Nat), (9 : Nat), (12 : Nat), (13 : Nat)), ((0 : Nat), (9 : Nat), (15 : Nat), (17 : Nat))] 3 := ⟨⟨(gm4 (i := 76) (by decide +kernel) rfl), (gm1 (i := 0) (by decide +kernel) rfl), (gm4 (i := 77) rfl rfl)⟩, (gdec (by decide +kernel) (by decide +kernel) (by decide +kernel))⟩
theorem k_L_renew : gKH yL_renew cL_renew 4 (some .int) [((0 : Nat), (9 : Nat), (12 : Nat), (13 : Nat))] 3 := ⟨⟨(gm4 (i := 96) (by decide +kernel) rfl), (gm1 (i := 0) (by decide +kernel) rfl), (gm4 (i := 97) rfl rfl)⟩, (gdec (by decide +kernel) (by decide +kernel) (by decide +kernel))⟩
theorem k_L_copy : gKH yL_copy cL_copy 5 (some .int) [((0 : Nat), (10 : Nat), (13 : Nat), (13 : Nat)), ((0 : Nat), (10 : Nat), (17 : Nat), (15 : Nat))] 4 := ⟨⟨(gm4 (i := 107) (by decide +kernel) rfl), (gm1 (i := 0) (by decide +kernel) rfl), (gm4 (i := 108) rfl rfl)⟩, (gdec (by decide +kernel) (by decide +kernel) (by decide +kernel))⟩
theorem k_L_wear : gKH yL_wear cL_wear 6 (some .int) [((0 : Nat), (12 : Nat), (15 : Nat), (13 : Nat)), ((0 : Nat), (12 : Nat), (19 : Nat), (17 : Nat))] 5 := ⟨⟨(gm4 (i := 116) (by decide +kernel) rfl), (gm1 (i := 0) (by decide +kernel) rfl), (gm4 (i := 117) rfl rfl)⟩, (gdec (by decide +kernel) (by decide +kernel) (by decide +kernel))⟩
theorem k_L_lose : gKH yL_lose cL_lose 6 (some .int) [((0 : Nat), (12 : Nat), (15 : Nat), (13 : Nat)), ((0 : Nat), (12 : Nat), (19 : Nat), (17 : Nat))] 5 := ⟨⟨(gm4 (i := 135) (by decide +kernel) rfl), (gm1 (i := 0) (by decide +kernel) rfl), (gm4 (i := 136) rfl rfl)⟩, (gdec (by decide +kernel) (by decide +kernel) (by decide +kernel))⟩
theorem k_L_turn : gKH yL_turn cL_turn 5 (some .int) [((0 : Nat), (10 : Nat), (13 : Nat), (13 : Nat)), ((0 : Nat), (10 : Nat), (17 : Nat), (15 : Nat))] 4 := ⟨⟨(gm4 (i := 143) (by decide +kernel) rfl), (gm1 (i := 0) (by decide +kernel) rfl), (gm4 (i := 144) rfl rfl)⟩, (gdec (by decide +kernel) (by decide +kernel) (by decide +kernel))⟩
theorem k_L_view : gKH yL_view cL_view 4 (some .int) [((0 : Nat), (9 : Nat), (12 : Nat), (13 : Nat))] 3 := ⟨⟨(gm4 (i := 151) (by decide +kernel) rfl), (gm1 (i := 0) (by decide +kernel) rfl), (gm4 (i := 152) rfl rfl)⟩, (gdec (by decide +kernel) (by decide +kernel) (by decide +kernel))⟩
theorem k_L_sees : gKH yL_sees cL_sees 6 (some .int) [((0 : Nat), (19 : Nat), (22 : Nat), (13 : Nat))] 5 := ⟨⟨(gm4 (i := 158) (by decide +kernel) rfl), (gm1 (i := 0) (by decide +kernel) rfl), (gm4 (i := 159) rfl rfl)⟩, (gdec (by decide +kernel) (by decide +kernel) (by decide +kernel))⟩
theorem k_L_raw : gKH yL_raw cL_raw 5 (some .int) [((0 : Nat), (10 : Nat), (13 : Nat), (13 : Nat))] 4 := ⟨⟨(gm4 (i := 166) (by decide +kernel) rfl), (gm1 (i := 0) (by decide +kernel) rfl), (gm4 (i := 167) rfl rfl)⟩, (gdec (by decide +kernel) (by decide +kernel) (by decide +kernel))⟩
theorem k_L_kind : gKH yL_kind cL_kind 6 (some .int) [((0 : Nat), (12 : Nat), (15 : Nat), (13 : Nat))] 5 := ⟨⟨(gm4 (i := 173) (by decide +kernel) rfl), (gm1 (i := 0) (by decide +kernel) rfl), (gm4 (i := 174) rfl rfl)⟩, (gdec (by decide +kernel) (by decide +kernel) (by decide +kernel))⟩
theorem k_L_told : gKH yL_told cL_told 6 (some .int) [((0 : Nat), (12 : Nat), (15 : Nat), (13 : Nat))] 5 := ⟨⟨(gm4 (i := 180) (by decide +kernel) rfl), (gm1 (i := 0) (by decide +kernel) rfl), (gm4 (i := 181) rfl rfl)⟩, (gdec (by decide +kernel) (by decide +kernel) (by decide +kernel))⟩
theorem k_L_count : gKH yL_count cL_count 5 (some .int) [((0 : Nat), (10 : Nat), (13 : Nat), (13 : Nat))] 4 := ⟨⟨(gm4 (i := 187) (by decide +kernel) rfl), (gm1 (i := 0) (by decide +kernel) rfl), (gm4 (i := 188) rfl rfl)⟩, (gdec (by decide +kernel) (by decide +kernel) (by decide +kernel))⟩
theorem k_L_read : gKH yL_read cL_read 5 (some .int) [((0 : Nat), (10 : Nat), (13 : Nat), (13 : Nat))] 4 := ⟨⟨(gm4 (i := 195) (by decide +kernel) rfl), (gm1 (i := 0) (by decide +kernel) rfl), (gm4 (i := 196) rfl rfl)⟩, (gdec (by decide +kernel) (by decide +kernel) (by decide +kernel))⟩
theorem k_L_value : gKH yL_value cL_value 5 (some .int) [((0 : Nat), (10 : Nat), (13 : Nat), (13 : Nat))] 4 := ⟨⟨(gm4 (i := 202) (by decide +kernel) rfl), (gm1 (i := 0) (by decide +kernel) rfl), (gm4 (i := 203) rfl rfl)⟩, (gdec (by decide +kernel) (by decide +kernel) (by decide +kernel))⟩
theorem k_L_untold : gKH yL_untold cL_untold 4 (some .int) [((0 : Nat), (9 : Nat), (12 : Nat), (13 : Nat))] 3 := ⟨⟨(gm4 (i := 209) (by decide +kernel) rfl), (gm1 (i := 0) (by decide +kernel) rfl), (gm4 (i := 210) rfl rfl)⟩, (gdec (by decide +kernel) (by decide +kernel) (by decide +kernel))⟩
theorem k_L_disagreements : gKH yL_disagreements cL_disagreements 4 (some .int) [((0 : Nat), (9 : Nat), (12 : Nat), (13 : Nat))] 3 := ⟨⟨(gm4 (i := 216) (by decide +kernel) rfl), (gm1 (i := 0) (by decide +kernel) rfl), (gm4 (i := 217) rfl rfl)⟩, (gdec (by decide +kernel) (by decide +kernel) (by decide +kernel))⟩
theorem k_L_disagreement : gKH yL_disagreement cL_disagreement 5 (some .int) [((0 : Nat), (10 : Nat), (13 : Nat), (13 : Nat))] 4 := ⟨⟨(gm4 (i := 223) (by decide +kernel) rfl), (gm1 (i := 0) (by decide +kernel) rfl), (gm4 (i := 224) rfl rfl)⟩, (gdec (by decide +kernel) (by decide +kernel) (by decide +kernel))⟩
theorem k_L_soundShare : gKH yL_soundShare cL_soundShare 4 (some .int) [((0 : Nat), (8 : Nat), (11 : Nat), (13 : Nat))] 3 := ⟨⟨(gm4 (i := 235) (by decide +kernel) rfl), (gm1 (i := 0) (by decide +kernel) rfl), (gm4 (i := 236) rfl rfl)⟩, (gdec (by decide +kernel) (by decide +kernel) (by decide +kernel))⟩
theorem k_L_untoldIf : gKH yL_untoldIf cL_untoldIf 6 (some .int) [((0 : Nat), (12 : Nat), (15 : Nat), (13 : Nat))] 5 := ⟨⟨(gm5 (i := 3) (by decide +kernel) rfl), (gm1 (i := 0) (by decide +kernel) rfl), (gm5 (i := 4) rfl rfl)⟩, (gdec (by decide +kernel) (by decide +kernel) (by decide +kernel))⟩
theorem k_L_worst : gKH yL_worst cL_worst 4 (some .int) [((0 : Nat), (9 : Nat), (12 : Nat), (13 : Nat))] 3 := ⟨⟨(gm5 (i := 10) (by decide +kernel) rfl), (gm1 (i := 0) (by decide +kernel) rfl), (gm5 (i := 11) rfl rfl)⟩, (gdec (by decide +kernel) (by decide +kernel) (by decide +kernel))⟩
theorem k_L_difference : gKH yL_difference cL_difference 5 (some .int) [((0 : Nat), (10 : Nat), (13 : Nat), (13 : Nat))] 4 := ⟨⟨(gm5 (i := 17) (by decide +kernel) rfl), (gm1 (i := 0) (by decide +kernel) rfl), (gm5 (i := 18) rfl rfl)⟩, (gdec (by decide +kernel) (by decide +kernel) (by decide +kernel))⟩
theorem k_L_append : gKH yL_append cL_append 4 (some .int) [((0 : Nat), (9 : Nat), (12 : Nat), (15 : Nat)), ((0 : Nat), (9 : Nat), (15 : Nat), (17 : Nat))] 3 := ⟨⟨(gm5 (i := 24) (by decide +kernel) rfl), (gm1 (i := 0) (by decide +kernel) rfl), (gm5 (i := 25) rfl rfl)⟩, (gdec (by decide +kernel) (by decide +kernel) (by decide +kernel))⟩
theorem k_L_run : gKH yL_run cL_run 3 (some .int) [((0 : Nat), (8 : Nat), (11 : Nat), (15 : Nat))] 2 := ⟨⟨(gm5 (i := 50) (by decide +kernel) rfl), (gm1 (i := 0) (by decide +kernel) rfl), (gm5 (i := 51) rfl rfl)⟩, (gdec (by decide +kernel) (by decide +kernel) (by decide +kernel))⟩
theorem k_L_undo : gKH yL_undo cL_undo 3 (some .int) [((0 : Nat), (8 : Nat), (11 : Nat), (17 : Nat))] 2 := ⟨⟨(gm5 (i := 80) (by decide +kernel) rfl), (gm1 (i := 0) (by decide +kernel) rfl), (gm5 (i := 81) rfl rfl)⟩, (gdec (by decide +kernel) (by decide +kernel) (by decide +kernel))⟩
theorem in_X0 : ∀ w ∈ wsX00, w ∈ gTs := by
  show ∀ w ∈ [u_lay RX0 TX0 0, u_lay RX0 TX0 1, u_lay RX0 TX0 2], w ∈ gTs
  exact (List.forall_mem_cons.mpr ⟨(gm1 (i := 48) (by decide +kernel) rfl), (List.forall_mem_cons.mpr ⟨(gm1 (i := 50) (by decide +kernel) rfl), (List.forall_mem_cons.mpr ⟨(gm1 (i := 52) (by decide +kernel) rfl), (List.forall_mem_nil _)⟩)⟩)⟩)
theorem in_X1 : ∀ w ∈ wsX10, w ∈ gTs := by
  show ∀ w ∈ [u_lay RX1 TX1 0, u_lay RX1 TX1 1], w ∈ gTs
  exact (List.forall_mem_cons.mpr ⟨(gm1 (i := 81) (by decide +kernel) rfl), (List.forall_mem_cons.mpr ⟨(gm1 (i := 83) (by decide +kernel) rfl), (List.forall_mem_nil _)⟩)⟩)
theorem in_X2 : ∀ w ∈ wsX20, w ∈ gTs := by
  show ∀ w ∈ [u_lay RX2 TX2 0, u_lay RX2 TX2 1, u_lay RX2 TX2 2, u_lay RX2 TX2 3, u_lay RX2 TX2 4, u_lay RX2 TX2 5], w ∈ gTs
  exact (List.forall_mem_cons.mpr ⟨(gm1 (i := 103) (by decide +kernel) rfl), (List.forall_mem_cons.mpr ⟨(gm1 (i := 105) (by decide +kernel) rfl), (List.forall_mem_cons.mpr ⟨(gm1 (i := 107) (by decide +kernel) rfl), (List.forall_mem_cons.mpr ⟨(gm1 (i := 109) (by decide +kernel) rfl), (List.forall_mem_cons.mpr ⟨(gm1 (i := 111) (by decide +kernel) rfl), (List.forall_mem_cons.mpr ⟨(gm1 (i := 113) (by decide +kernel) rfl), (List.forall_mem_nil _)⟩)⟩)⟩)⟩)⟩)⟩)
theorem in_X3 : ∀ w ∈ wsX30, w ∈ gTs := by
  show ∀ w ∈ [u_lay RX3 TX3 0, u_lay RX3 TX3 1], w ∈ gTs
  exact (List.forall_mem_cons.mpr ⟨(gm1 (i := 65) (by decide +kernel) rfl), (List.forall_mem_cons.mpr ⟨(gm1 (i := 67) (by decide +kernel) rfl), (List.forall_mem_nil _)⟩)⟩)
theorem in_X4 : ∀ w ∈ wsX40, w ∈ gTs := by
  show ∀ w ∈ [u_lay RX4 TX4 0, u_lay RX4 TX4 1, u_lay RX4 TX4 2, u_lay RX4 TX4 3, u_lay RX4 TX4 4, u_lay RX4 TX4 5], w ∈ gTs
  exact (List.forall_mem_cons.mpr ⟨(gm1 (i := 155) (by decide +kernel) rfl), (List.forall_mem_cons.mpr ⟨(gm1 (i := 157) (by decide +kernel) rfl), (List.forall_mem_cons.mpr ⟨(gm1 (i := 159) (by decide +kernel) rfl), (List.forall_mem_cons.mpr ⟨(gm1 (i := 161) (by decide +kernel) rfl), (List.forall_mem_cons.mpr ⟨(gm1 (i := 163) (by decide +kernel) rfl), (List.forall_mem_cons.mpr ⟨(gm1 (i := 165) (by decide +kernel) rfl), (List.forall_mem_nil _)⟩)⟩)⟩)⟩)⟩)⟩)
theorem in_X5 : ∀ w ∈ wsX50, w ∈ gTs := by
  show ∀ w ∈ [u_lay RX5 TX5 0, u_lay RX5 TX5 1, u_lay RX5 TX5 2, u_lay RX5 TX5 3, u_lay RX5 TX5 4, u_lay RX5 TX5 5, u_lay RX5 TX5 6, u_lay RX5 TX5 7, u_lay RX5 TX5 8, u_lay RX5 TX5 9, u_lay RX5 TX5 10, u_lay RX5 TX5 11], w ∈ gTs
  exact (List.forall_mem_cons.mpr ⟨(gm5 (i := 117) (by decide +kernel) rfl), (List.forall_mem_cons.mpr ⟨(gm5 (i := 119) (by decide +kernel) rfl), (List.forall_mem_cons.mpr ⟨(gm5 (i := 121) (by decide +kernel) rfl), (List.forall_mem_cons.mpr ⟨(gm5 (i := 123) (by decide +kernel) rfl), (List.forall_mem_cons.mpr ⟨(gm5 (i := 125) (by decide +kernel) rfl), (List.forall_mem_cons.mpr ⟨(gm5 (i := 127) (by decide +kernel) rfl), (List.forall_mem_cons.mpr ⟨(gm5 (i := 129) (by decide +kernel) rfl), (List.forall_mem_cons.mpr ⟨(gm5 (i := 131) (by decide +kernel) rfl), (List.forall_mem_cons.mpr ⟨(gm5 (i := 133) (by decide +kernel) rfl), (List.forall_mem_cons.mpr ⟨(gm5 (i := 135) (by decide +kernel) rfl), (List.forall_mem_cons.mpr ⟨(gm5 (i := 137) (by decide +kernel) rfl), (List.forall_mem_cons.mpr ⟨(gm5 (i := 139) (by decide +kernel) rfl), (List.forall_mem_nil _)⟩)⟩)⟩)⟩)⟩)⟩)⟩)⟩)⟩)⟩)⟩)⟩)
theorem in_Jx00060 : ∀ w ∈ wsJx000600, w ∈ gTs := by
  show ∀ w ∈ [u_lay RJx00060 TJx00060 0, u_lay RJx00060 TJx00060 1, u_lay RJx00060 TJx00060 2, u_lay RJx00060 TJx00060 3, u_lay RJx00060 TJx00060 4, u_lay RJx00060 TJx00060 5], w ∈ gTs
  exact (List.forall_mem_cons.mpr ⟨(gm3 (i := 15) (by decide +kernel) rfl), (List.forall_mem_cons.mpr ⟨(gm3 (i := 16) (by decide +kernel) rfl), (List.forall_mem_cons.mpr ⟨(gm3 (i := 17) (by decide +kernel) rfl), (List.forall_mem_cons.mpr ⟨(gm3 (i := 18) (by decide +kernel) rfl), (List.forall_mem_cons.mpr ⟨(gm3 (i := 19) (by decide +kernel) rfl), (List.forall_mem_cons.mpr ⟨(gm3 (i := 30) (by decide +kernel) rfl), (List.forall_mem_nil _)⟩)⟩)⟩)⟩)⟩)⟩)
theorem in_J0 : ∀ w ∈ wsJ00, w ∈ gTs := by
  show ∀ w ∈ [u_lay RJ0 TJ0 0, u_lay RJ0 TJ0 1, u_lay RJ0 TJ0 2, u_lay RJ0 TJ0 3], w ∈ gTs
  exact (List.forall_mem_cons.mpr ⟨(gm2 (i := 217) (by decide +kernel) rfl), (List.forall_mem_cons.mpr ⟨(gm2 (i := 219) (by decide +kernel) rfl), (List.forall_mem_cons.mpr ⟨(gm2 (i := 221) (by decide +kernel) rfl), (List.forall_mem_cons.mpr ⟨(gm2 (i := 223) (by decide +kernel) rfl), (List.forall_mem_nil _)⟩)⟩)⟩)⟩)
theorem in_J4 : ∀ w ∈ wsJ40, w ∈ gTs := by
  show ∀ w ∈ [u_lay RJ4 TJ4 0, u_lay RJ4 TJ4 1, u_lay RJ4 TJ4 2, u_lay RJ4 TJ4 3], w ∈ gTs
  exact (List.forall_mem_cons.mpr ⟨(gm1 (i := 139) (by decide +kernel) rfl), (List.forall_mem_cons.mpr ⟨(gm1 (i := 141) (by decide +kernel) rfl), (List.forall_mem_cons.mpr ⟨(gm1 (i := 143) (by decide +kernel) rfl), (List.forall_mem_cons.mpr ⟨(gm1 (i := 145) (by decide +kernel) rfl), (List.forall_mem_nil _)⟩)⟩)⟩)⟩)
theorem in_Jx7c733 : ∀ w ∈ wsJx7c7330, w ∈ gTs := by
  show ∀ w ∈ [u_lay RJx7c733 TJx7c733 0, u_lay RJx7c733 TJx7c733 1, u_lay RJx7c733 TJx7c733 2, u_lay RJx7c733 TJx7c733 3, u_lay RJx7c733 TJx7c733 4, u_lay RJx7c733 TJx7c733 5], w ∈ gTs
  exact (List.forall_mem_cons.mpr ⟨(gm2 (i := 230) (by decide +kernel) rfl), (List.forall_mem_cons.mpr ⟨(gm2 (i := 231) (by decide +kernel) rfl), (List.forall_mem_cons.mpr ⟨(gm2 (i := 232) (by decide +kernel) rfl), (List.forall_mem_cons.mpr ⟨(gm2 (i := 233) (by decide +kernel) rfl), (List.forall_mem_cons.mpr ⟨(gm2 (i := 234) (by decide +kernel) rfl), (List.forall_mem_cons.mpr ⟨(gm2 (i := 235) (by decide +kernel) rfl), (List.forall_mem_nil _)⟩)⟩)⟩)⟩)⟩)⟩)
def gN : List Cond := [Cond.methodLinkNest RX4 15 yX0_init RX4, Cond.fieldLinkNest RX4 89 RX0 "front" "J" RX4, Cond.fieldLinkNest RX4 99 RX0 "back" "J" RX4, Cond.fieldLinkNest RX4 151 RX0 "lies" "I" RX4, Cond.methodLinkNest RX4 18 yX3_init RX4, Cond.fieldLinkNest RX4 114 RX3 "known" "J" RX4, Cond.fieldLinkNest RX4 111 RX3 "ones" "J" RX4, Cond.methodLinkNest RX4 28 yX1_init RX4, Cond.methodLinkNest RX1 17 yX0_init RX4, Cond.fieldLinkNest RX4 241 RX1 "kept" "I" RX4, Cond.methodLinkNest RX4 35 yX2_init RX4, Cond.fieldLinkNest RX4 296 RX2 "letter" "C" RX4, Cond.fieldLinkNest RX4 320 RX2 "inBack" "Z" RX4, Cond.fieldLinkNest RX4 300 RX2 "row" "I" RX4, Cond.fieldLinkNest RX4 317 RX2 "column" "I" RX4, Cond.fieldLinkNest RX4 303 RX2 "number" "I" RX4, Cond.privateMethod yJ5_appendNull_278bc, Cond.privateMethod yJ5_ensureCapacityInternal_d00df, Cond.privateMethod yJ5_newCapacity_0f7a4, Cond.castable "[B" RJx8e188, Cond.privateMethod yJ5_putStringAt_47b60, Cond.privateMethod yJ5_inflateIfNeededFor_a7421, Cond.privateMethod yJ5_inflate_da8c8, Cond.castable "java/lang/IllegalArgumentException" "java/lang/IllegalArgumentException", Cond.declares ⟨"java/lang/RuntimeException", "<init>", "()V"⟩, Cond.declares ⟨"java/lang/RuntimeException", "<init>", "(Ljava/lang/String;)V"⟩, Cond.declares ⟨"java/lang/Exception", "<init>", "()V"⟩, Cond.declares ⟨"java/lang/Exception", "<init>", "(Ljava/lang/String;)V"⟩, Cond.declares ⟨"java/lang/Throwable", "<init>", "()V"⟩, Cond.declares ⟨"java/lang/Throwable", "<init>", "(Ljava/lang/String;)V"⟩, Cond.castable RJx00060 RJx00060, Cond.declares ⟨"java/lang/IndexOutOfBoundsException", "<init>", "()V"⟩, Cond.declares ⟨"java/lang/IndexOutOfBoundsException", "<init>", "(Ljava/lang/String;)V"⟩, Cond.methodLinkNest RX4 281 yX2_begin RX4, Cond.methodLinkNest RX4 288 yX2_takes RX4, Cond.methodLinkNest RX4 180 yX0_sound RX4, Cond.methodLinkNest RX4 183 yX0_ones RX4, Cond.methodLinkNest RX4 265 yX3_findAll RX4, Cond.methodLinkNest RX3 18 yX4_rowCells RX4, Cond.methodLinkNest RX3 37 yX4_isOdd RX4, Cond.methodLinkNest RX3 26 yX4_columnCells RX4, Cond.methodLinkNest RX4 176 yX0_cellsOfKind RX4, Cond.methodLinkNest RX4 189 yX3_unknownCells RX4, Cond.methodLinkNest RX4 192 yX3_disagreeingLines RX4, Cond.methodLinkNest RX4 162 yX0_rawNumber RX4, Cond.methodLinkNest RX0 35 yX4_cellNumber RX4, Cond.methodLinkNest RX0 31 yX4_isIn RX4, Cond.methodLinkNest RX4 143 yX0_kindAt RX4, Cond.methodLinkNest RX4 168 yX3_bitAt RX4, Cond.methodLinkNest RX3 41 yX4_isIn RX4, Cond.castable "java/lang/IndexOutOfBoundsException" "java/lang/IndexOutOfBoundsException", Cond.methodLinkNest RX4 62 yX0_canPunch RX4, Cond.methodLinkNest RX0 43 yX4_rowCells RX4, Cond.castable "java/lang/IllegalStateException" "java/lang/IllegalStateException", Cond.methodLinkNest RX4 71 yX1_save RX4, Cond.methodLinkNest RX1 25 yX0_become RX4, Cond.methodLinkNest RX4 75 yX0_punchRow RX4, Cond.methodLinkNest RX4 79 yX0_canClose RX4, Cond.methodLinkNest RX4 85 yX0_punchCheckRow RX4, Cond.methodLinkNest RX0 60 yX4_columnCells RX4, Cond.methodLinkNest RX0 63 yX4_isOdd RX4, Cond.methodLinkNest RX4 102 yX0_clear RX4, Cond.methodLinkNest RX4 119 yX0_blank RX4, Cond.methodLinkNest RX4 127 yX0_seenCell RX4, Cond.methodLinkNest RX4 130 yX0_showsBack RX4, Cond.methodLinkNest RX4 133 yX0_hasHole RX4, Cond.methodLinkNest RX4 139 yX0_setHole RX4, Cond.methodLinkNest RX4 155 yX0_showsHole RX4, Cond.methodLinkNest RX4 197 yX3_disagreeingLine RX4, Cond.methodLinkNest RX4 227 yX2_isPartWhole RX4, Cond.methodLinkNest RX4 235 yX1_restores RX4, Cond.castable RJx00060 "java/lang/IndexOutOfBoundsException", Cond.castable RJx7c733 "java/lang/IndexOutOfBoundsException"]
theorem gN_in : ∀ w ∈ gN, w ∈ lw_tbl := by
  show ∀ w ∈ [Cond.methodLinkNest RX4 15 yX0_init RX4, Cond.fieldLinkNest RX4 89 RX0 "front" "J" RX4, Cond.fieldLinkNest RX4 99 RX0 "back" "J" RX4, Cond.fieldLinkNest RX4 151 RX0 "lies" "I" RX4, Cond.methodLinkNest RX4 18 yX3_init RX4, Cond.fieldLinkNest RX4 114 RX3 "known" "J" RX4, Cond.fieldLinkNest RX4 111 RX3 "ones" "J" RX4, Cond.methodLinkNest RX4 28 yX1_init RX4, Cond.methodLinkNest RX1 17 yX0_init RX4, Cond.fieldLinkNest RX4 241 RX1 "kept" "I" RX4, Cond.methodLinkNest RX4 35 yX2_init RX4, Cond.fieldLinkNest RX4 296 RX2 "letter" "C" RX4, Cond.fieldLinkNest RX4 320 RX2 "inBack" "Z" RX4, Cond.fieldLinkNest RX4 300 RX2 "row" "I" RX4, Cond.fieldLinkNest RX4 317 RX2 "column" "I" RX4, Cond.fieldLinkNest RX4 303 RX2 "number" "I" RX4, Cond.privateMethod yJ5_appendNull_278bc, Cond.privateMethod yJ5_ensureCapacityInternal_d00df, Cond.privateMethod yJ5_newCapacity_0f7a4, Cond.castable "[B" RJx8e188, Cond.privateMethod yJ5_putStringAt_47b60, Cond.privateMethod yJ5_inflateIfNeededFor_a7421, Cond.privateMethod yJ5_inflate_da8c8, Cond.castable "java/lang/IllegalArgumentException" "java/lang/IllegalArgumentException", Cond.declares ⟨"java/lang/RuntimeException", "<init>", "()V"⟩, Cond.declares ⟨"java/lang/RuntimeException", "<init>", "(Ljava/lang/String;)V"⟩, Cond.declares ⟨"java/lang/Exception", "<init>", "()V"⟩, Cond.declares ⟨"java/lang/Exception", "<init>", "(Ljava/lang/String;)V"⟩, Cond.declares ⟨"java/lang/Throwable", "<init>", "()V"⟩, Cond.declares ⟨"java/lang/Throwable", "<init>", "(Ljava/lang/String;)V"⟩, Cond.castable RJx00060 RJx00060, Cond.declares ⟨"java/lang/IndexOutOfBoundsException", "<init>", "()V"⟩, Cond.declares ⟨"java/lang/IndexOutOfBoundsException", "<init>", "(Ljava/lang/String;)V"⟩, Cond.methodLinkNest RX4 281 yX2_begin RX4, Cond.methodLinkNest RX4 288 yX2_takes RX4, Cond.methodLinkNest RX4 180 yX0_sound RX4, Cond.methodLinkNest RX4 183 yX0_ones RX4, Cond.methodLinkNest RX4 265 yX3_findAll RX4, Cond.methodLinkNest RX3 18 yX4_rowCells RX4, Cond.methodLinkNest RX3 37 yX4_isOdd RX4, Cond.methodLinkNest RX3 26 yX4_columnCells RX4, Cond.methodLinkNest RX4 176 yX0_cellsOfKind RX4, Cond.methodLinkNest RX4 189 yX3_unknownCells RX4, Cond.methodLinkNest RX4 192 yX3_disagreeingLines RX4, Cond.methodLinkNest RX4 162 yX0_rawNumber RX4, Cond.methodLinkNest RX0 35 yX4_cellNumber RX4, Cond.methodLinkNest RX0 31 yX4_isIn RX4, Cond.methodLinkNest RX4 143 yX0_kindAt RX4, Cond.methodLinkNest RX4 168 yX3_bitAt RX4, Cond.methodLinkNest RX3 41 yX4_isIn RX4, Cond.castable "java/lang/IndexOutOfBoundsException" "java/lang/IndexOutOfBoundsException", Cond.methodLinkNest RX4 62 yX0_canPunch RX4, Cond.methodLinkNest RX0 43 yX4_rowCells RX4, Cond.castable "java/lang/IllegalStateException" "java/lang/IllegalStateException", Cond.methodLinkNest RX4 71 yX1_save RX4, Cond.methodLinkNest RX1 25 yX0_become RX4, Cond.methodLinkNest RX4 75 yX0_punchRow RX4, Cond.methodLinkNest RX4 79 yX0_canClose RX4, Cond.methodLinkNest RX4 85 yX0_punchCheckRow RX4, Cond.methodLinkNest RX0 60 yX4_columnCells RX4, Cond.methodLinkNest RX0 63 yX4_isOdd RX4, Cond.methodLinkNest RX4 102 yX0_clear RX4, Cond.methodLinkNest RX4 119 yX0_blank RX4, Cond.methodLinkNest RX4 127 yX0_seenCell RX4, Cond.methodLinkNest RX4 130 yX0_showsBack RX4, Cond.methodLinkNest RX4 133 yX0_hasHole RX4, Cond.methodLinkNest RX4 139 yX0_setHole RX4, Cond.methodLinkNest RX4 155 yX0_showsHole RX4, Cond.methodLinkNest RX4 197 yX3_disagreeingLine RX4, Cond.methodLinkNest RX4 227 yX2_isPartWhole RX4, Cond.methodLinkNest RX4 235 yX1_restores RX4, Cond.castable RJx00060 "java/lang/IndexOutOfBoundsException", Cond.castable RJx7c733 "java/lang/IndexOutOfBoundsException"], w ∈ lw_tbl
  exact (List.forall_mem_cons.mpr ⟨gt1 (i := 38) (by decide +kernel), (List.forall_mem_cons.mpr ⟨gt1 (i := 43) (by decide +kernel), (List.forall_mem_cons.mpr ⟨gt1 (i := 45) (by decide +kernel), (List.forall_mem_cons.mpr ⟨gt1 (i := 47) (by decide +kernel), (List.forall_mem_cons.mpr ⟨gt1 (i := 57) (by decide +kernel), (List.forall_mem_cons.mpr ⟨gt1 (i := 62) (by decide +kernel), (List.forall_mem_cons.mpr ⟨gt1 (i := 64) (by decide +kernel), (List.forall_mem_cons.mpr ⟨gt1 (i := 72) (by decide +kernel), (List.forall_mem_cons.mpr ⟨gt1 (i := 77) (by decide +kernel), (List.forall_mem_cons.mpr ⟨gt1 (i := 80) (by decide +kernel), (List.forall_mem_cons.mpr ⟨gt1 (i := 88) (by decide +kernel), (List.forall_mem_cons.mpr ⟨gt1 (i := 94) (by decide +kernel), (List.forall_mem_cons.mpr ⟨gt1 (i := 96) (by decide +kernel), (List.forall_mem_cons.mpr ⟨gt1 (i := 98) (by decide +kernel), (List.forall_mem_cons.mpr ⟨gt1 (i := 100) (by decide +kernel), (List.forall_mem_cons.mpr ⟨gt1 (i := 102) (by decide +kernel), (List.forall_mem_cons.mpr ⟨gt1 (i := 202) (by decide +kernel), (List.forall_mem_cons.mpr ⟨gt1 (i := 206) (by decide +kernel), (List.forall_mem_cons.mpr ⟨gt1 (i := 210) (by decide +kernel), (List.forall_mem_cons.mpr ⟨gt1 (i := 232) (by decide +kernel), (List.forall_mem_cons.mpr ⟨gt2 (i := 41) (by decide +kernel), (List.forall_mem_cons.mpr ⟨gt2 (i := 45) (by decide +kernel), (List.forall_mem_cons.mpr ⟨gt2 (i := 50) (by decide +kernel), (List.forall_mem_cons.mpr ⟨gt2 (i := 130) (by decide +kernel), (List.forall_mem_cons.mpr ⟨gt2 (i := 131) (by decide +kernel), (List.forall_mem_cons.mpr ⟨gt2 (i := 132) (by decide +kernel), (List.forall_mem_cons.mpr ⟨gt2 (i := 133) (by decide +kernel), (List.forall_mem_cons.mpr ⟨gt2 (i := 134) (by decide +kernel), (List.forall_mem_cons.mpr ⟨gt2 (i := 135) (by decide +kernel), (List.forall_mem_cons.mpr ⟨gt2 (i := 136) (by decide +kernel), (List.forall_mem_cons.mpr ⟨gt3 (i := 11) (by decide +kernel), (List.forall_mem_cons.mpr ⟨gt3 (i := 12) (by decide +kernel), (List.forall_mem_cons.mpr ⟨gt3 (i := 13) (by decide +kernel), (List.forall_mem_cons.mpr ⟨gt3 (i := 44) (by decide +kernel), (List.forall_mem_cons.mpr ⟨gt3 (i := 63) (by decide +kernel), (List.forall_mem_cons.mpr ⟨gt3 (i := 111) (by decide +kernel), (List.forall_mem_cons.mpr ⟨gt3 (i := 115) (by decide +kernel), (List.forall_mem_cons.mpr ⟨gt3 (i := 120) (by decide +kernel), (List.forall_mem_cons.mpr ⟨gt3 (i := 124) (by decide +kernel), (List.forall_mem_cons.mpr ⟨gt3 (i := 139) (by decide +kernel), (List.forall_mem_cons.mpr ⟨gt3 (i := 143) (by decide +kernel), (List.forall_mem_cons.mpr ⟨gt3 (i := 154) (by decide +kernel), (List.forall_mem_cons.mpr ⟨gt3 (i := 163) (by decide +kernel), (List.forall_mem_cons.mpr ⟨gt3 (i := 167) (by decide +kernel), (List.forall_mem_cons.mpr ⟨gt3 (i := 190) (by decide +kernel), (List.forall_mem_cons.mpr ⟨gt3 (i := 206) (by decide +kernel), (List.forall_mem_cons.mpr ⟨gt3 (i := 213) (by decide +kernel), (List.forall_mem_cons.mpr ⟨gt3 (i := 221) (by decide +kernel), (List.forall_mem_cons.mpr ⟨gt3 (i := 225) (by decide +kernel), (List.forall_mem_cons.mpr ⟨gt3 (i := 229) (by decide +kernel), (List.forall_mem_cons.mpr ⟨gt4 (i := 6) (by decide +kernel), (List.forall_mem_cons.mpr ⟨gt4 (i := 24) (by decide +kernel), (List.forall_mem_cons.mpr ⟨gt4 (i := 28) (by decide +kernel), (List.forall_mem_cons.mpr ⟨gt4 (i := 31) (by decide +kernel), (List.forall_mem_cons.mpr ⟨gt4 (i := 45) (by decide +kernel), (List.forall_mem_cons.mpr ⟨gt4 (i := 53) (by decide +kernel), (List.forall_mem_cons.mpr ⟨gt4 (i := 57) (by decide +kernel), (List.forall_mem_cons.mpr ⟨gt4 (i := 82) (by decide +kernel), (List.forall_mem_cons.mpr ⟨gt4 (i := 88) (by decide +kernel), (List.forall_mem_cons.mpr ⟨gt4 (i := 92) (by decide +kernel), (List.forall_mem_cons.mpr ⟨gt4 (i := 93) (by decide +kernel), (List.forall_mem_cons.mpr ⟨gt4 (i := 102) (by decide +kernel), (List.forall_mem_cons.mpr ⟨gt4 (i := 114) (by decide +kernel), (List.forall_mem_cons.mpr ⟨gt4 (i := 129) (by decide +kernel), (List.forall_mem_cons.mpr ⟨gt4 (i := 130) (by decide +kernel), (List.forall_mem_cons.mpr ⟨gt4 (i := 131) (by decide +kernel), (List.forall_mem_cons.mpr ⟨gt4 (i := 133) (by decide +kernel), (List.forall_mem_cons.mpr ⟨gt4 (i := 164) (by decide +kernel), (List.forall_mem_cons.mpr ⟨gt4 (i := 230) (by decide +kernel), (List.forall_mem_cons.mpr ⟨gt5 (i := 56) (by decide +kernel), (List.forall_mem_cons.mpr ⟨gt5 (i := 86) (by decide +kernel), (List.forall_mem_cons.mpr ⟨gt6 (i := 193) (by decide +kernel), (List.forall_mem_cons.mpr ⟨gt6 (i := 194) (by decide +kernel), (List.forall_mem_nil _)⟩)⟩)⟩)⟩)⟩)⟩)⟩)⟩)⟩)⟩)⟩)⟩)⟩)⟩)⟩)⟩)⟩)⟩)⟩)⟩)⟩)⟩)⟩)⟩)⟩)⟩)⟩)⟩)⟩)⟩)⟩)⟩)⟩)⟩)⟩)⟩)⟩)⟩)⟩)⟩)⟩)⟩)⟩)⟩)⟩)⟩)⟩)⟩)⟩)⟩)⟩)⟩)⟩)⟩)⟩)⟩)⟩)⟩)⟩)⟩)⟩)⟩)⟩)⟩)⟩)⟩)⟩)⟩)⟩)⟩)⟩)⟩)⟩)
theorem nm_X4_15 : Cond.methodLinkNest RX4 15 yX0_init RX4 ∈ gN := List.mem_of_getElem? (i := 0) rfl
theorem nf_X4_89 : Cond.fieldLinkNest RX4 89 RX0 "front" "J" RX4 ∈ gN := List.mem_of_getElem? (i := 1) rfl
theorem nf_X4_99 : Cond.fieldLinkNest RX4 99 RX0 "back" "J" RX4 ∈ gN := List.mem_of_getElem? (i := 2) rfl
theorem nf_X4_151 : Cond.fieldLinkNest RX4 151 RX0 "lies" "I" RX4 ∈ gN := List.mem_of_getElem? (i := 3) rfl
theorem nm_X4_18 : Cond.methodLinkNest RX4 18 yX3_init RX4 ∈ gN := List.mem_of_getElem? (i := 4) rfl
theorem nf_X4_114 : Cond.fieldLinkNest RX4 114 RX3 "known" "J" RX4 ∈ gN := List.mem_of_getElem? (i := 5) rfl
theorem nf_X4_111 : Cond.fieldLinkNest RX4 111 RX3 "ones" "J" RX4 ∈ gN := List.mem_of_getElem? (i := 6) rfl
theorem nm_X4_28 : Cond.methodLinkNest RX4 28 yX1_init RX4 ∈ gN := List.mem_of_getElem? (i := 7) rfl
theorem nm_X1_17 : Cond.methodLinkNest RX1 17 yX0_init RX4 ∈ gN := List.mem_of_getElem? (i := 8) rfl
theorem nf_X4_241 : Cond.fieldLinkNest RX4 241 RX1 "kept" "I" RX4 ∈ gN := List.mem_of_getElem? (i := 9) rfl
theorem nm_X4_35 : Cond.methodLinkNest RX4 35 yX2_init RX4 ∈ gN := List.mem_of_getElem? (i := 10) rfl
theorem nf_X4_296 : Cond.fieldLinkNest RX4 296 RX2 "letter" "C" RX4 ∈ gN := List.mem_of_getElem? (i := 11) rfl
theorem nf_X4_320 : Cond.fieldLinkNest RX4 320 RX2 "inBack" "Z" RX4 ∈ gN := List.mem_of_getElem? (i := 12) rfl
theorem nf_X4_300 : Cond.fieldLinkNest RX4 300 RX2 "row" "I" RX4 ∈ gN := List.mem_of_getElem? (i := 13) rfl
theorem nf_X4_317 : Cond.fieldLinkNest RX4 317 RX2 "column" "I" RX4 ∈ gN := List.mem_of_getElem? (i := 14) rfl
theorem nf_X4_303 : Cond.fieldLinkNest RX4 303 RX2 "number" "I" RX4 ∈ gN := List.mem_of_getElem? (i := 15) rfl
theorem pv_J5_appendNull_278bc : Cond.privateMethod yJ5_appendNull_278bc ∈ gN := List.mem_of_getElem? (i := 16) rfl
theorem pv_J5_ensureCapacityInternal_d00df : Cond.privateMethod yJ5_ensureCapacityInternal_d00df ∈ gN := List.mem_of_getElem? (i := 17) rfl
theorem pv_J5_newCapacity_0f7a4 : Cond.privateMethod yJ5_newCapacity_0f7a4 ∈ gN := List.mem_of_getElem? (i := 18) rfl
theorem ca_19 : Cond.castable "[B" RJx8e188 ∈ gN := List.mem_of_getElem? (i := 19) rfl
theorem pv_J5_putStringAt_47b60 : Cond.privateMethod yJ5_putStringAt_47b60 ∈ gN := List.mem_of_getElem? (i := 20) rfl
theorem pv_J5_inflateIfNeededFor_a7421 : Cond.privateMethod yJ5_inflateIfNeededFor_a7421 ∈ gN := List.mem_of_getElem? (i := 21) rfl
theorem pv_J5_inflate_da8c8 : Cond.privateMethod yJ5_inflate_da8c8 ∈ gN := List.mem_of_getElem? (i := 22) rfl
theorem ca_23 : Cond.castable "java/lang/IllegalArgumentException" "java/lang/IllegalArgumentException" ∈ gN := List.mem_of_getElem? (i := 23) rfl
theorem ca_30 : Cond.castable RJx00060 RJx00060 ∈ gN := List.mem_of_getElem? (i := 30) rfl
theorem nm_X4_281 : Cond.methodLinkNest RX4 281 yX2_begin RX4 ∈ gN := List.mem_of_getElem? (i := 33) rfl
theorem nm_X4_288 : Cond.methodLinkNest RX4 288 yX2_takes RX4 ∈ gN := List.mem_of_getElem? (i := 34) rfl
theorem nm_X4_180 : Cond.methodLinkNest RX4 180 yX0_sound RX4 ∈ gN := List.mem_of_getElem? (i := 35) rfl
theorem nm_X4_183 : Cond.methodLinkNest RX4 183 yX0_ones RX4 ∈ gN := List.mem_of_getElem? (i := 36) rfl
theorem nm_X4_265 : Cond.methodLinkNest RX4 265 yX3_findAll RX4 ∈ gN := List.mem_of_getElem? (i := 37) rfl
theorem nm_X3_18 : Cond.methodLinkNest RX3 18 yX4_rowCells RX4 ∈ gN := List.mem_of_getElem? (i := 38) rfl
theorem nm_X3_37 : Cond.methodLinkNest RX3 37 yX4_isOdd RX4 ∈ gN := List.mem_of_getElem? (i := 39) rfl
theorem nm_X3_26 : Cond.methodLinkNest RX3 26 yX4_columnCells RX4 ∈ gN := List.mem_of_getElem? (i := 40) rfl
theorem nm_X4_176 : Cond.methodLinkNest RX4 176 yX0_cellsOfKind RX4 ∈ gN := List.mem_of_getElem? (i := 41) rfl
theorem nm_X4_189 : Cond.methodLinkNest RX4 189 yX3_unknownCells RX4 ∈ gN := List.mem_of_getElem? (i := 42) rfl
theorem nm_X4_192 : Cond.methodLinkNest RX4 192 yX3_disagreeingLines RX4 ∈ gN := List.mem_of_getElem? (i := 43) rfl
theorem nm_X4_162 : Cond.methodLinkNest RX4 162 yX0_rawNumber RX4 ∈ gN := List.mem_of_getElem? (i := 44) rfl
theorem nm_X0_35 : Cond.methodLinkNest RX0 35 yX4_cellNumber RX4 ∈ gN := List.mem_of_getElem? (i := 45) rfl
theorem nm_X0_31 : Cond.methodLinkNest RX0 31 yX4_isIn RX4 ∈ gN := List.mem_of_getElem? (i := 46) rfl
theorem nm_X4_143 : Cond.methodLinkNest RX4 143 yX0_kindAt RX4 ∈ gN := List.mem_of_getElem? (i := 47) rfl
theorem nm_X4_168 : Cond.methodLinkNest RX4 168 yX3_bitAt RX4 ∈ gN := List.mem_of_getElem? (i := 48) rfl
theorem nm_X3_41 : Cond.methodLinkNest RX3 41 yX4_isIn RX4 ∈ gN := List.mem_of_getElem? (i := 49) rfl
theorem ca_50 : Cond.castable "java/lang/IndexOutOfBoundsException" "java/lang/IndexOutOfBoundsException" ∈ gN := List.mem_of_getElem? (i := 50) rfl
theorem nm_X4_62 : Cond.methodLinkNest RX4 62 yX0_canPunch RX4 ∈ gN := List.mem_of_getElem? (i := 51) rfl
theorem nm_X0_43 : Cond.methodLinkNest RX0 43 yX4_rowCells RX4 ∈ gN := List.mem_of_getElem? (i := 52) rfl
theorem ca_53 : Cond.castable "java/lang/IllegalStateException" "java/lang/IllegalStateException" ∈ gN := List.mem_of_getElem? (i := 53) rfl
theorem nm_X4_71 : Cond.methodLinkNest RX4 71 yX1_save RX4 ∈ gN := List.mem_of_getElem? (i := 54) rfl
theorem nm_X1_25 : Cond.methodLinkNest RX1 25 yX0_become RX4 ∈ gN := List.mem_of_getElem? (i := 55) rfl
theorem nm_X4_75 : Cond.methodLinkNest RX4 75 yX0_punchRow RX4 ∈ gN := List.mem_of_getElem? (i := 56) rfl
theorem nm_X4_79 : Cond.methodLinkNest RX4 79 yX0_canClose RX4 ∈ gN := List.mem_of_getElem? (i := 57) rfl
theorem nm_X4_85 : Cond.methodLinkNest RX4 85 yX0_punchCheckRow RX4 ∈ gN := List.mem_of_getElem? (i := 58) rfl
theorem nm_X0_60 : Cond.methodLinkNest RX0 60 yX4_columnCells RX4 ∈ gN := List.mem_of_getElem? (i := 59) rfl
theorem nm_X0_63 : Cond.methodLinkNest RX0 63 yX4_isOdd RX4 ∈ gN := List.mem_of_getElem? (i := 60) rfl
theorem nm_X4_102 : Cond.methodLinkNest RX4 102 yX0_clear RX4 ∈ gN := List.mem_of_getElem? (i := 61) rfl
theorem nm_X4_119 : Cond.methodLinkNest RX4 119 yX0_blank RX4 ∈ gN := List.mem_of_getElem? (i := 62) rfl
theorem nm_X4_127 : Cond.methodLinkNest RX4 127 yX0_seenCell RX4 ∈ gN := List.mem_of_getElem? (i := 63) rfl
theorem nm_X4_130 : Cond.methodLinkNest RX4 130 yX0_showsBack RX4 ∈ gN := List.mem_of_getElem? (i := 64) rfl
theorem nm_X4_133 : Cond.methodLinkNest RX4 133 yX0_hasHole RX4 ∈ gN := List.mem_of_getElem? (i := 65) rfl
theorem nm_X4_139 : Cond.methodLinkNest RX4 139 yX0_setHole RX4 ∈ gN := List.mem_of_getElem? (i := 66) rfl
theorem nm_X4_155 : Cond.methodLinkNest RX4 155 yX0_showsHole RX4 ∈ gN := List.mem_of_getElem? (i := 67) rfl
theorem nm_X4_197 : Cond.methodLinkNest RX4 197 yX3_disagreeingLine RX4 ∈ gN := List.mem_of_getElem? (i := 68) rfl
theorem nm_X4_227 : Cond.methodLinkNest RX4 227 yX2_isPartWhole RX4 ∈ gN := List.mem_of_getElem? (i := 69) rfl
theorem nm_X4_235 : Cond.methodLinkNest RX4 235 yX1_restores RX4 ∈ gN := List.mem_of_getElem? (i := 70) rfl
theorem ca_71 : Cond.castable RJx00060 "java/lang/IndexOutOfBoundsException" ∈ gN := List.mem_of_getElem? (i := 71) rfl
theorem ca_72 : Cond.castable RJx7c733 "java/lang/IndexOutOfBoundsException" ∈ gN := List.mem_of_getElem? (i := 72) rfl
def gKU (own : String) (y : MethodName) (cc : ByteArray) (maxL : Nat) (ret : Option FieldType) (n : Nat) : Prop := (Cond.instanceMethod y ∈ gTs ∧ Cond.sameMethod y.cls y.cls y.name y.desc ∈ gTs ∧ Cond.superclass own y.cls ∈ gTs ∧ Cond.initialized y.cls ∈ gTs ∧ Cond.code y cc maxL ret ∈ gTs) ∧ (y.name ≠ "<init>" ∧ (parseMethodDescriptor y.desc).map (fun d => d.parameters.length) = some n)
def gKW (C : String) (y : MethodName) (cc : ByteArray) (maxL : Nat) (ret : Option FieldType) (n : Nat) : Prop := (Cond.instanceMethod y ∈ gTs ∧ Cond.selects C y y ∈ gTs ∧ Cond.initialized y.cls ∈ gTs ∧ Cond.code y cc maxL ret ∈ gTs) ∧ (y.cls ≠ "java/lang/invoke/MethodHandle" ∧ y.cls ≠ "java/lang/invoke/VarHandle" ∧ (parseMethodDescriptor y.desc).map (fun d => d.parameters.length) = some n)
def gKP (y : MethodName) (cc : ByteArray) (maxL : Nat) (ret : Option FieldType) (n : Nat) : Prop := (Cond.instanceMethod y ∈ gTs ∧ Cond.privateMethod y ∈ gN ∧ Cond.initialized y.cls ∈ gTs ∧ Cond.code y cc maxL ret ∈ gTs) ∧ (y.cls ≠ "java/lang/invoke/MethodHandle" ∧ y.cls ≠ "java/lang/invoke/VarHandle" ∧ (parseMethodDescriptor y.desc).map (fun d => d.parameters.length) = some n)
theorem gdeu {y : MethodName} {n : Nat} (h : decide (y.name ≠ "<init>") = true) (h3 : decide ((parseMethodDescriptor y.desc).map (fun d => d.parameters.length) = some n) = true) : y.name ≠ "<init>" ∧ (parseMethodDescriptor y.desc).map (fun d => d.parameters.length) = some n := ⟨of_decide_eq_true h, of_decide_eq_true h3⟩
theorem ku_J5_length_8abf5 : gKU RJ4 yJ5_length_8abf5 cJ5_length_8abf5 1 (some .int) 0 := ⟨⟨(gm1 (i := 177) (by decide +kernel) rfl), (gm6 (i := 179) (by decide +kernel) rfl), (gm1 (i := 147) (by decide +kernel) rfl), (gm1 (i := 6) (by decide +kernel) rfl), (gm1 (i := 178) rfl rfl)⟩, gdeu (by decide +kernel) (by decide +kernel)⟩
theorem ku_J5_ensureCapacityInternal_d00df : gKU RJ4 yJ5_ensureCapacityInternal_d00df cJ5_ensureCapacityInternal_d00df 3 none 1 := ⟨⟨(gm1 (i := 207) (by decide +kernel) rfl), (gm6 (i := 183) (by decide +kernel) rfl), (gm1 (i := 147) (by decide +kernel) rfl), (gm1 (i := 6) (by decide +kernel) rfl), (gm1 (i := 208) rfl rfl)⟩, gdeu (by decide +kernel) (by decide +kernel)⟩
theorem kp_J5_ensureCapacityInternal_d00df : gKP yJ5_ensureCapacityInternal_d00df cJ5_ensureCapacityInternal_d00df 3 none 1 := ⟨⟨(gm1 (i := 207) (by decide +kernel) rfl), pv_J5_ensureCapacityInternal_d00df, (gm1 (i := 6) (by decide +kernel) rfl), (gm1 (i := 208) rfl rfl)⟩, (gdec (by decide +kernel) (by decide +kernel) (by decide +kernel))⟩
theorem ku_J5_newCapacity_0f7a4 : gKU RJ4 yJ5_newCapacity_0f7a4 cJ5_newCapacity_0f7a4 6 (some .int) 1 := ⟨⟨(gm1 (i := 211) (by decide +kernel) rfl), (gm6 (i := 184) (by decide +kernel) rfl), (gm1 (i := 147) (by decide +kernel) rfl), (gm1 (i := 6) (by decide +kernel) rfl), (gm1 (i := 212) rfl rfl)⟩, gdeu (by decide +kernel) (by decide +kernel)⟩
theorem kp_J5_newCapacity_0f7a4 : gKP yJ5_newCapacity_0f7a4 cJ5_newCapacity_0f7a4 6 (some .int) 1 := ⟨⟨(gm1 (i := 211) (by decide +kernel) rfl), pv_J5_newCapacity_0f7a4, (gm1 (i := 6) (by decide +kernel) rfl), (gm1 (i := 212) rfl rfl)⟩, (gdec (by decide +kernel) (by decide +kernel) (by decide +kernel))⟩
theorem ku_J5_inflate_da8c8 : gKU RJ4 yJ5_inflate_da8c8 cJ5_inflate_da8c8 2 none 0 := ⟨⟨(gm2 (i := 51) (by decide +kernel) rfl), (gm6 (i := 187) (by decide +kernel) rfl), (gm1 (i := 147) (by decide +kernel) rfl), (gm1 (i := 6) (by decide +kernel) rfl), (gm2 (i := 52) rfl rfl)⟩, gdeu (by decide +kernel) (by decide +kernel)⟩
theorem kp_J5_inflate_da8c8 : gKP yJ5_inflate_da8c8 cJ5_inflate_da8c8 2 none 0 := ⟨⟨(gm2 (i := 51) (by decide +kernel) rfl), pv_J5_inflate_da8c8, (gm1 (i := 6) (by decide +kernel) rfl), (gm2 (i := 52) rfl rfl)⟩, (gdec (by decide +kernel) (by decide +kernel) (by decide +kernel))⟩
theorem ku_J5_setLength_d00df : gKU RJ4 yJ5_setLength_d00df cJ5_setLength_d00df 2 none 1 := ⟨⟨(gm1 (i := 184) (by decide +kernel) rfl), (gm6 (i := 180) (by decide +kernel) rfl), (gm1 (i := 147) (by decide +kernel) rfl), (gm1 (i := 6) (by decide +kernel) rfl), (gm1 (i := 185) rfl rfl)⟩, gdeu (by decide +kernel) (by decide +kernel)⟩
theorem ku_J5_charAt_5068e : gKU RJ4 yJ5_charAt_5068e cJ5_charAt_5068e 5 (some .char) 1 := ⟨⟨(gm3 (i := 53) (by decide +kernel) rfl), (gm6 (i := 191) (by decide +kernel) rfl), (gm1 (i := 147) (by decide +kernel) rfl), (gm1 (i := 6) (by decide +kernel) rfl), (gm3 (i := 54) rfl rfl)⟩, gdeu (by decide +kernel) (by decide +kernel)⟩
theorem ku_J5_append_cf1ce : gKU RJ4 yJ5_append_cf1ce cJ5_append_cf1ce 3 (some (.object "java/lang/AbstractStringBuilder")) 1 := ⟨⟨(gm1 (i := 199) (by decide +kernel) rfl), (gm6 (i := 181) (by decide +kernel) rfl), (gm1 (i := 147) (by decide +kernel) rfl), (gm1 (i := 6) (by decide +kernel) rfl), (gm1 (i := 200) rfl rfl)⟩, gdeu (by decide +kernel) (by decide +kernel)⟩
theorem ku_J5_appendNull_278bc : gKU RJ4 yJ5_appendNull_278bc cJ5_appendNull_278bc 3 (some (.object "java/lang/AbstractStringBuilder")) 0 := ⟨⟨(gm1 (i := 203) (by decide +kernel) rfl), (gm6 (i := 182) (by decide +kernel) rfl), (gm1 (i := 147) (by decide +kernel) rfl), (gm1 (i := 6) (by decide +kernel) rfl), (gm1 (i := 204) rfl rfl)⟩, gdeu (by decide +kernel) (by decide +kernel)⟩
theorem kp_J5_appendNull_278bc : gKP yJ5_appendNull_278bc cJ5_appendNull_278bc 3 (some (.object "java/lang/AbstractStringBuilder")) 0 := ⟨⟨(gm1 (i := 203) (by decide +kernel) rfl), pv_J5_appendNull_278bc, (gm1 (i := 6) (by decide +kernel) rfl), (gm1 (i := 204) rfl rfl)⟩, (gdec (by decide +kernel) (by decide +kernel) (by decide +kernel))⟩
theorem ku_J5_append_3fe6f : gKU RJ4 yJ5_append_3fe6f cJ5_append_3fe6f 2 (some (.object "java/lang/AbstractStringBuilder")) 1 := ⟨⟨(gm5 (i := 37) (by decide +kernel) rfl), (gm6 (i := 192) (by decide +kernel) rfl), (gm1 (i := 147) (by decide +kernel) rfl), (gm1 (i := 6) (by decide +kernel) rfl), (gm5 (i := 38) rfl rfl)⟩, gdeu (by decide +kernel) (by decide +kernel)⟩
theorem ku_J5_append_c97b9 : gKU RJ4 yJ5_append_c97b9 cJ5_append_c97b9 4 (some (.object "java/lang/AbstractStringBuilder")) 1 := ⟨⟨(gm2 (i := 79) (by decide +kernel) rfl), (gm6 (i := 188) (by decide +kernel) rfl), (gm1 (i := 147) (by decide +kernel) rfl), (gm1 (i := 6) (by decide +kernel) rfl), (gm2 (i := 80) rfl rfl)⟩, gdeu (by decide +kernel) (by decide +kernel)⟩
theorem ku_J5_getValue_6d5f1 : gKU RJ4 yJ5_getValue_6d5f1 cJ5_getValue_6d5f1 1 (some (.array .byte)) 0 := ⟨⟨(gm2 (i := 113) (by decide +kernel) rfl), (gm2 (i := 114) (by decide +kernel) rfl), (gm1 (i := 147) (by decide +kernel) rfl), (gm1 (i := 6) (by decide +kernel) rfl), (gm2 (i := 116) rfl rfl)⟩, gdeu (by decide +kernel) (by decide +kernel)⟩
theorem kw_J5_getValue_6d5f1 : gKW RJ4 yJ5_getValue_6d5f1 cJ5_getValue_6d5f1 1 (some (.array .byte)) 0 := ⟨⟨(gm2 (i := 113) (by decide +kernel) rfl), (gm2 (i := 115) (by decide +kernel) rfl), (gm1 (i := 6) (by decide +kernel) rfl), (gm2 (i := 116) rfl rfl)⟩, (gdec (by decide +kernel) (by decide +kernel) (by decide +kernel))⟩
theorem ku_J5_isLatin1_aae02 : gKU RJ4 yJ5_isLatin1_aae02 cJ5_isLatin1_aae02 1 (some .boolean) 0 := ⟨⟨(gm2 (i := 1) (by decide +kernel) rfl), (gm2 (i := 2) (by decide +kernel) rfl), (gm1 (i := 147) (by decide +kernel) rfl), (gm1 (i := 6) (by decide +kernel) rfl), (gm2 (i := 4) rfl rfl)⟩, gdeu (by decide +kernel) (by decide +kernel)⟩
theorem kw_J5_isLatin1_aae02 : gKW RJ4 yJ5_isLatin1_aae02 cJ5_isLatin1_aae02 1 (some .boolean) 0 := ⟨⟨(gm2 (i := 1) (by decide +kernel) rfl), (gm2 (i := 3) (by decide +kernel) rfl), (gm1 (i := 6) (by decide +kernel) rfl), (gm2 (i := 4) rfl rfl)⟩, (gdec (by decide +kernel) (by decide +kernel) (by decide +kernel))⟩
theorem ku_J5_inflateIfNeededFor_a7421 : gKU RJ4 yJ5_inflateIfNeededFor_a7421 cJ5_inflateIfNeededFor_a7421 2 none 1 := ⟨⟨(gm2 (i := 46) (by decide +kernel) rfl), (gm6 (i := 186) (by decide +kernel) rfl), (gm1 (i := 147) (by decide +kernel) rfl), (gm1 (i := 6) (by decide +kernel) rfl), (gm2 (i := 47) rfl rfl)⟩, gdeu (by decide +kernel) (by decide +kernel)⟩
theorem kp_J5_inflateIfNeededFor_a7421 : gKP yJ5_inflateIfNeededFor_a7421 cJ5_inflateIfNeededFor_a7421 2 none 1 := ⟨⟨(gm2 (i := 46) (by decide +kernel) rfl), pv_J5_inflateIfNeededFor_a7421, (gm1 (i := 6) (by decide +kernel) rfl), (gm2 (i := 47) rfl rfl)⟩, (gdec (by decide +kernel) (by decide +kernel) (by decide +kernel))⟩
theorem ku_J5_putStringAt_47b60 : gKU RJ4 yJ5_putStringAt_47b60 cJ5_putStringAt_47b60 3 none 2 := ⟨⟨(gm2 (i := 42) (by decide +kernel) rfl), (gm6 (i := 185) (by decide +kernel) rfl), (gm1 (i := 147) (by decide +kernel) rfl), (gm1 (i := 6) (by decide +kernel) rfl), (gm2 (i := 43) rfl rfl)⟩, gdeu (by decide +kernel) (by decide +kernel)⟩
theorem kp_J5_putStringAt_47b60 : gKP yJ5_putStringAt_47b60 cJ5_putStringAt_47b60 3 none 2 := ⟨⟨(gm2 (i := 42) (by decide +kernel) rfl), pv_J5_putStringAt_47b60, (gm1 (i := 6) (by decide +kernel) rfl), (gm2 (i := 43) rfl rfl)⟩, (gdec (by decide +kernel) (by decide +kernel) (by decide +kernel))⟩
def gSR : List (Nat × String) := [(263, "there is no such card"), (271, "rows with values are 0 to 6"), (57, "a value is 0 to 127"), (68, "a cell of the row is not blank"), (83, "the card can't be closed"), (105, "a card is not copied onto itself"), (269, "rows and columns are 0 to 7"), (137, "there is a hole"), (147, "there is no hole"), (149, "a view is 0 to 3"), (173, "a kind is 0 to 3"), (195, "the index is negative"), (210, "a character code is 33 to 126"), (215, "the buffer is full"), (230, "the buffer is not a complete work text"), (239, "no state is saved")]
theorem sr_263 : (263, "there is no such card") ∈ gSR := List.mem_of_getElem? (i := 0) rfl
theorem sr_271 : (271, "rows with values are 0 to 6") ∈ gSR := List.mem_of_getElem? (i := 1) rfl
theorem sr_57 : (57, "a value is 0 to 127") ∈ gSR := List.mem_of_getElem? (i := 2) rfl
theorem sr_68 : (68, "a cell of the row is not blank") ∈ gSR := List.mem_of_getElem? (i := 3) rfl
theorem sr_83 : (83, "the card can't be closed") ∈ gSR := List.mem_of_getElem? (i := 4) rfl
theorem sr_105 : (105, "a card is not copied onto itself") ∈ gSR := List.mem_of_getElem? (i := 5) rfl
theorem sr_269 : (269, "rows and columns are 0 to 7") ∈ gSR := List.mem_of_getElem? (i := 6) rfl
theorem sr_137 : (137, "there is a hole") ∈ gSR := List.mem_of_getElem? (i := 7) rfl
theorem sr_147 : (147, "there is no hole") ∈ gSR := List.mem_of_getElem? (i := 8) rfl
theorem sr_149 : (149, "a view is 0 to 3") ∈ gSR := List.mem_of_getElem? (i := 9) rfl
theorem sr_173 : (173, "a kind is 0 to 3") ∈ gSR := List.mem_of_getElem? (i := 10) rfl
theorem sr_195 : (195, "the index is negative") ∈ gSR := List.mem_of_getElem? (i := 11) rfl
theorem sr_210 : (210, "a character code is 33 to 126") ∈ gSR := List.mem_of_getElem? (i := 12) rfl
theorem sr_215 : (215, "the buffer is full") ∈ gSR := List.mem_of_getElem? (i := 13) rfl
theorem sr_230 : (230, "the buffer is not a complete work text") ∈ gSR := List.mem_of_getElem? (i := 14) rfl
theorem sr_239 : (239, "no state is saved") ∈ gSR := List.mem_of_getElem? (i := 15) rfl
def gNc : List (String × String) := [("java/lang/IllegalArgumentException", "java/lang/IndexOutOfBoundsException"), ("java/lang/IllegalStateException", "java/lang/IndexOutOfBoundsException"), ("java/lang/IndexOutOfBoundsException", "java/lang/IllegalArgumentException"), ("java/lang/IllegalStateException", "java/lang/IllegalArgumentException"), ("java/lang/IndexOutOfBoundsException", "java/lang/IllegalStateException"), ("java/lang/IllegalArgumentException", "java/lang/IllegalStateException")]
