/-! THE WORDS: the good ones of the tables, one list for all methods; each by its place -/
def gTs : List Cond := lw_tbl.filter goodWord
theorem gTs_good : gTs.all goodWord = true := List.all_eq_true.mpr fun _ h => (List.mem_filter.mp h).2
theorem gTs_self : GoodIn gTs gTs := fun _ h => ⟨h, good_of_word (List.mem_filter.mp h).2⟩
theorem gTs_in : ∀ w ∈ gTs, w ∈ lw_tbl := fun _ h => (List.mem_filter.mp h).1
theorem gm1 {w : Cond} {i : Nat} (h : tables_1_1[i]? = some w) (g : goodWord w = true) : w ∈ gTs := by
  have h0 : w ∈ tables_1_1 := List.mem_of_getElem? h
  have h1 : w ∈ tables_1 := List.mem_append_left _ h0
  exact List.mem_filter.mpr ⟨List.mem_append_right _ h1, g⟩
theorem gt1 {w : Cond} {i : Nat} (h : tables_1_1[i]? = some w) : w ∈ lw_tbl := by
  have h0 : w ∈ tables_1_1 := List.mem_of_getElem? h
  have h1 : w ∈ tables_1 := List.mem_append_left _ h0
  exact List.mem_append_right _ h1
theorem gm2 {w : Cond} {i : Nat} (h : tables_1_2[i]? = some w) (g : goodWord w = true) : w ∈ gTs := by
  have h0 : w ∈ tables_1_2 := List.mem_of_getElem? h
  have h1 : w ∈ tables_1 := List.mem_append_right _ (List.mem_append_left _ h0)
  exact List.mem_filter.mpr ⟨List.mem_append_right _ h1, g⟩
theorem gt2 {w : Cond} {i : Nat} (h : tables_1_2[i]? = some w) : w ∈ lw_tbl := by
  have h0 : w ∈ tables_1_2 := List.mem_of_getElem? h
  have h1 : w ∈ tables_1 := List.mem_append_right _ (List.mem_append_left _ h0)
  exact List.mem_append_right _ h1
theorem gm3 {w : Cond} {i : Nat} (h : tables_1_3[i]? = some w) (g : goodWord w = true) : w ∈ gTs := by
  have h0 : w ∈ tables_1_3 := List.mem_of_getElem? h
  have h1 : w ∈ tables_1 := List.mem_append_right _ (List.mem_append_right _ (h0))
  exact List.mem_filter.mpr ⟨List.mem_append_right _ h1, g⟩
theorem gt3 {w : Cond} {i : Nat} (h : tables_1_3[i]? = some w) : w ∈ lw_tbl := by
  have h0 : w ∈ tables_1_3 := List.mem_of_getElem? h
  have h1 : w ∈ tables_1 := List.mem_append_right _ (List.mem_append_right _ (h0))
  exact List.mem_append_right _ h1
theorem gp1 {y : MethodName} {i n : Nat} (h : lw_privs_1[i]? = some (y, n)) (g : goodWord (Cond.selects y.cls y y) = true) : Cond.selects y.cls y y ∈ gTs := by
  have h0 : (y, n) ∈ lw_privs_1 := List.mem_of_getElem? h
  have h1 : (y, n) ∈ lw_privs := List.mem_append_left _ h0
  exact List.mem_filter.mpr ⟨List.mem_append_left _ (List.mem_map.mpr ⟨(y, n), h1, rfl⟩), g⟩
theorem gp2 {y : MethodName} {i n : Nat} (h : lw_privs_2[i]? = some (y, n)) (g : goodWord (Cond.selects y.cls y y) = true) : Cond.selects y.cls y y ∈ gTs := by
  have h0 : (y, n) ∈ lw_privs_2 := List.mem_of_getElem? h
  have h1 : (y, n) ∈ lw_privs := List.mem_append_right _ (List.mem_append_left _ h0)
  exact List.mem_filter.mpr ⟨List.mem_append_left _ (List.mem_map.mpr ⟨(y, n), h1, rfl⟩), g⟩
theorem gp3 {y : MethodName} {i n : Nat} (h : lw_privs_3[i]? = some (y, n)) (g : goodWord (Cond.selects y.cls y y) = true) : Cond.selects y.cls y y ∈ gTs := by
  have h0 : (y, n) ∈ lw_privs_3 := List.mem_of_getElem? h
  have h1 : (y, n) ∈ lw_privs := List.mem_append_right _ (List.mem_append_right _ (h0))
  exact List.mem_filter.mpr ⟨List.mem_append_left _ (List.mem_map.mpr ⟨(y, n), h1, rfl⟩), g⟩
theorem xl_L_14 : Cond.classLink RL 14 RX4 ∈ gTs := (gm1 (i := 18) (by decide +kernel) rfl)
theorem ml_L_118 : Cond.methodLink RL 118 yX4_init ∈ gTs := (gm1 (i := 20) (by decide +kernel) rfl)
theorem ml_X4_1 : Cond.methodLink RX4 1 ⟨"java/lang/Object", "<init>", "()V"⟩ ∈ gTs := (gm1 (i := 23) (by decide +kernel) rfl)
theorem xl_X4_9 : Cond.classLink RX4 9 RX0 ∈ gTs := (gm1 (i := 26) (by decide +kernel) rfl)
theorem ml_X0_3 : Cond.methodLink RX0 3 ⟨"java/lang/Object", "<init>", "()V"⟩ ∈ gTs := (gm1 (i := 32) (by decide +kernel) rfl)
theorem fl_X0_9 : Cond.fieldLink RX0 9 RX0 "front" "J" ∈ gTs := (gm1 (i := 33) (by decide +kernel) rfl)
theorem fl_X0_15 : Cond.fieldLink RX0 15 RX0 "back" "J" ∈ gTs := (gm1 (i := 35) (by decide +kernel) rfl)
theorem fl_X0_18 : Cond.fieldLink RX0 18 RX0 "lies" "I" ∈ gTs := (gm1 (i := 37) (by decide +kernel) rfl)
theorem xl_X4_16 : Cond.classLink RX4 16 RX3 ∈ gTs := (gm1 (i := 46) (by decide +kernel) rfl)
theorem ml_X3_3 : Cond.methodLink RX3 3 ⟨"java/lang/Object", "<init>", "()V"⟩ ∈ gTs := (gm1 (i := 51) (by decide +kernel) rfl)
theorem fl_X3_9 : Cond.fieldLink RX3 9 RX3 "known" "J" ∈ gTs := (gm1 (i := 52) (by decide +kernel) rfl)
theorem fl_X3_15 : Cond.fieldLink RX3 15 RX3 "ones" "J" ∈ gTs := (gm1 (i := 54) (by decide +kernel) rfl)
theorem xl_X4_26 : Cond.classLink RX4 26 RX1 ∈ gTs := (gm1 (i := 61) (by decide +kernel) rfl)
theorem ml_X1_3 : Cond.methodLink RX1 3 ⟨"java/lang/Object", "<init>", "()V"⟩ ∈ gTs := (gm1 (i := 66) (by decide +kernel) rfl)
theorem xl_X1_9 : Cond.classLink RX1 9 RX0 ∈ gTs := (gm1 (i := 67) (by decide +kernel) rfl)
theorem fl_X1_11 : Cond.fieldLink RX1 11 RX1 "saved" "[LMirrorCards$Card;" ∈ gTs := (gm1 (i := 69) (by decide +kernel) rfl)
theorem fl_X1_18 : Cond.fieldLink RX1 18 RX1 "kept" "I" ∈ gTs := (gm1 (i := 70) (by decide +kernel) rfl)
theorem xl_X4_33 : Cond.classLink RX4 33 RX2 ∈ gTs := (gm1 (i := 77) (by decide +kernel) rfl)
theorem ml_X2_3 : Cond.methodLink RX2 3 ⟨"java/lang/Object", "<init>", "()V"⟩ ∈ gTs := (gm1 (i := 82) (by decide +kernel) rfl)
theorem xl_X4_40 : Cond.classLink RX4 40 RJ4 ∈ gTs := (gm1 (i := 96) (by decide +kernel) rfl)
theorem ml_X4_42 : Cond.methodLink RX4 42 yJ4_init_da8c8 ∈ gTs := (gm1 (i := 98) (by decide +kernel) rfl)
theorem ml_J4_1 : Cond.methodLink RJ4 1 yJ5_init_d00df ∈ gTs := (gm1 (i := 101) (by decide +kernel) rfl)
theorem ml_J5_3 : Cond.methodLink RJ5 3 ⟨"java/lang/Object", "<init>", "()V"⟩ ∈ gTs := (gm1 (i := 104) (by decide +kernel) rfl)
theorem fl_J5_18 : Cond.fieldLink RJ5 18 RJ0 "COMPACT_STRINGS" "Z" ∈ gTs := (gm1 (i := 105) (by decide +kernel) rfl)
theorem ml_J5_26 : Cond.methodLink RJ5 26 yJ2_newBytesFor_77867 ∈ gTs := (gm1 (i := 107) (by decide +kernel) rfl)
theorem ml_J2_11 : Cond.methodLink RJ2 11 yJ2_newBytesLength_0f7a4 ∈ gTs := (gm1 (i := 110) (by decide +kernel) rfl)
theorem ki_J2_20 : Cond.constant RJ2 20 (1073741823) ∈ gTs := (gm1 (i := 113) (by decide +kernel) rfl)
theorem fl_J5_15 : Cond.fieldLink RJ5 15 RJ5 "value" "[B" ∈ gTs := (gm1 (i := 114) (by decide +kernel) rfl)
theorem fl_J5_22 : Cond.fieldLink RJ5 22 RJ5 "coder" "B" ∈ gTs := (gm1 (i := 115) (by decide +kernel) rfl)
theorem fl_X4_11 : Cond.fieldLink RX4 11 RX4 "cards" "[LMirrorCards$Card;" ∈ gTs := (gm1 (i := 126) (by decide +kernel) rfl)
theorem fl_X4_19 : Cond.fieldLink RX4 19 RX4 "telling" "LMirrorCards$Telling;" ∈ gTs := (gm1 (i := 127) (by decide +kernel) rfl)
theorem fl_X4_23 : Cond.fieldLink RX4 23 RX4 "forecast" "LMirrorCards$Telling;" ∈ gTs := (gm1 (i := 128) (by decide +kernel) rfl)
theorem fl_X4_29 : Cond.fieldLink RX4 29 RX4 "history" "LMirrorCards$History;" ∈ gTs := (gm1 (i := 129) (by decide +kernel) rfl)
theorem fl_X4_36 : Cond.fieldLink RX4 36 RX4 "reader" "LMirrorCards$PartReader;" ∈ gTs := (gm1 (i := 130) (by decide +kernel) rfl)
theorem fl_X4_43 : Cond.fieldLink RX4 43 RX4 "text" "Ljava/lang/StringBuilder;" ∈ gTs := (gm1 (i := 131) (by decide +kernel) rfl)
theorem ml_L_115 : Cond.methodLink RL 115 yX4_worst ∈ gTs := (gm1 (i := 145) (by decide +kernel) rfl)
theorem ml_X4_47 : Cond.methodLink RX4 47 yX4_cardAt ∈ gTs := (gm1 (i := 149) (by decide +kernel) rfl)
theorem xl_X4_171 : Cond.classLink RX4 171 "java/lang/IndexOutOfBoundsException" ∈ gTs := (gm1 (i := 153) (by decide +kernel) rfl)
theorem ml_X4_175 : Cond.methodLink RX4 175 ⟨"java/lang/IndexOutOfBoundsException", "<init>", "(Ljava/lang/String;)V"⟩ ∈ gTs := (gm1 (i := 195) (by decide +kernel) rfl)
theorem ml_X4_206 : Cond.methodLink RX4 206 yX4_worstCell ∈ gTs := (gm1 (i := 220) (by decide +kernel) rfl)
theorem ml_X4_202 : Cond.methodLink RX4 202 yX4_untoldWithout ∈ gTs := (gm1 (i := 224) (by decide +kernel) rfl)
theorem ml_X4_277 : Cond.methodLink RX4 277 yX4_isIn ∈ gTs := (gm1 (i := 232) (by decide +kernel) rfl)
theorem kl_X4_117 : Cond.constantLong RX4 117 (-1) ∈ gTs := (gm1 (i := 235) (by decide +kernel) rfl)
theorem kl_X0_22 : Cond.constantLong RX0 22 (-1) ∈ gTs := (gm2 (i := 0) (by decide +kernel) rfl)
theorem kl_X4_273 : Cond.constantLong RX4 273 (255) ∈ gTs := (gm2 (i := 8) (by decide +kernel) rfl)
theorem ml_X3_22 : Cond.methodLink RX3 22 yX3_tellLastOf ∈ gTs := (gm2 (i := 9) (by decide +kernel) rfl)
theorem kl_X3_29 : Cond.constantLong RX3 29 (-1) ∈ gTs := (gm2 (i := 13) (by decide +kernel) rfl)
theorem ml_X3_31 : Cond.methodLink RX3 31 yJ13_bitCount_95d88 ∈ gTs := (gm2 (i := 14) (by decide +kernel) rfl)
theorem kl_J13_314 : Cond.constantLong RJ13 314 (6148914691236517205) ∈ gTs := (gm2 (i := 17) (by decide +kernel) rfl)
theorem kl_J13_316 : Cond.constantLong RJ13 316 (3689348814741910323) ∈ gTs := (gm2 (i := 18) (by decide +kernel) rfl)
theorem kl_J13_318 : Cond.constantLong RJ13 318 (1085102592571150095) ∈ gTs := (gm2 (i := 19) (by decide +kernel) rfl)
theorem ml_X4_93 : Cond.methodLink RX4 93 yJ13_bitCount_95d88 ∈ gTs := (gm2 (i := 23) (by decide +kernel) rfl)
theorem kl_X4_275 : Cond.constantLong RX4 275 (72340172838076673) ∈ gTs := (gm2 (i := 27) (by decide +kernel) rfl)
theorem ml_L_111 : Cond.methodLink RL 111 yX4_undo ∈ gTs := (gm2 (i := 32) (by decide +kernel) rfl)
theorem xl_X4_66 : Cond.classLink RX4 66 "java/lang/IllegalStateException" ∈ gTs := (gm2 (i := 44) (by decide +kernel) rfl)
theorem ml_X4_70 : Cond.methodLink RX4 70 ⟨"java/lang/IllegalStateException", "<init>", "(Ljava/lang/String;)V"⟩ ∈ gTs := (gm2 (i := 54) (by decide +kernel) rfl)
theorem ml_L_126 : Cond.methodLink RL 126 yX4_savedStates ∈ gTs := (gm2 (i := 60) (by decide +kernel) rfl)
theorem ml_L_122 : Cond.methodLink RL 122 yL_cell ∈ gTs := (gm2 (i := 64) (by decide +kernel) rfl)
theorem ki_L_7 : Cond.constant RL 7 (1812433253) ∈ gTs := (gm2 (i := 67) (by decide +kernel) rfl)
theorem ml_L_29 : Cond.methodLink RL 29 yL_up ∈ gTs := (gm2 (i := 68) (by decide +kernel) rfl)
theorem ki_L_8 : Cond.constant RL 8 (2147483647) ∈ gTs := (gm2 (i := 71) (by decide +kernel) rfl)
theorem ml_L_48 : Cond.methodLink RL 48 yL_kinds ∈ gTs := (gm2 (i := 72) (by decide +kernel) rfl)
theorem kl_L_9 : Cond.constantLong RL 9 (131) ∈ gTs := (gm2 (i := 75) (by decide +kernel) rfl)
theorem kl_L_11 : Cond.constantLong RL 11 (31) ∈ gTs := (gm2 (i := 76) (by decide +kernel) rfl)
theorem ml_L_13 : Cond.methodLink RL 13 yX4_kind ∈ gTs := (gm2 (i := 77) (by decide +kernel) rfl)
theorem ml_X4_123 : Cond.methodLink RX4 123 yX4_requireCell ∈ gTs := (gm2 (i := 81) (by decide +kernel) rfl)
theorem ml_X4_159 : Cond.methodLink RX4 159 yX4_requireInSide ∈ gTs := (gm2 (i := 84) (by decide +kernel) rfl)
theorem ml_X4_165 : Cond.methodLink RX4 165 yX4_cellNumber ∈ gTs := (gm2 (i := 88) (by decide +kernel) rfl)
theorem ml_L_19 : Cond.methodLink RL 19 yX4_view ∈ gTs := (gm2 (i := 96) (by decide +kernel) rfl)
theorem ml_L_129 : Cond.methodLink RL 129 yL_acts ∈ gTs := (gm2 (i := 100) (by decide +kernel) rfl)
theorem ml_L_33 : Cond.methodLink RL 33 yX4_renew ∈ gTs := (gm2 (i := 103) (by decide +kernel) rfl)
theorem ml_X1_22 : Cond.methodLink RX1 22 yX1_discardOldest ∈ gTs := (gm2 (i := 111) (by decide +kernel) rfl)
theorem ml_L_36 : Cond.methodLink RL 36 yX4_count ∈ gTs := (gm2 (i := 119) (by decide +kernel) rfl)
theorem ml_X0_24 : Cond.methodLink RX0 24 yX0_ones ∈ gTs := (gm2 (i := 128) (by decide +kernel) rfl)
theorem ml_X0_28 : Cond.methodLink RX0 28 yX0_blank ∈ gTs := (gm2 (i := 129) (by decide +kernel) rfl)
theorem ml_L_39 : Cond.methodLink RL 39 yX4_untold ∈ gTs := (gm2 (i := 133) (by decide +kernel) rfl)
theorem ml_X4_107 : Cond.methodLink RX4 107 yX4_tellingOf ∈ gTs := (gm2 (i := 137) (by decide +kernel) rfl)
theorem ml_L_42 : Cond.methodLink RL 42 yX4_copy ∈ gTs := (gm2 (i := 141) (by decide +kernel) rfl)
theorem xl_X4_55 : Cond.classLink RX4 55 "java/lang/IllegalArgumentException" ∈ gTs := (gm2 (i := 145) (by decide +kernel) rfl)
theorem ml_X4_59 : Cond.methodLink RX4 59 ⟨"java/lang/IllegalArgumentException", "<init>", "(Ljava/lang/String;)V"⟩ ∈ gTs := (gm2 (i := 155) (by decide +kernel) rfl)
theorem ml_L_45 : Cond.methodLink RL 45 yX4_difference ∈ gTs := (gm2 (i := 162) (by decide +kernel) rfl)
theorem kl_L_52 : Cond.constantLong RL 52 (961) ∈ gTs := (gm2 (i := 166) (by decide +kernel) rfl)
theorem ml_L_54 : Cond.methodLink RL 54 yX4_turn ∈ gTs := (gm2 (i := 167) (by decide +kernel) rfl)
theorem ml_L_57 : Cond.methodLink RL 57 yL_canClose ∈ gTs := (gm2 (i := 172) (by decide +kernel) rfl)
theorem ml_L_23 : Cond.methodLink RL 23 yL_isBlank ∈ gTs := (gm2 (i := 175) (by decide +kernel) rfl)
theorem ml_L_61 : Cond.methodLink RL 61 yX4_close ∈ gTs := (gm2 (i := 178) (by decide +kernel) rfl)
theorem ml_X0_57 : Cond.methodLink RX0 57 yX0_sound ∈ gTs := (gm2 (i := 187) (by decide +kernel) rfl)
theorem ml_X0_47 : Cond.methodLink RX0 47 yX0_punchBit ∈ gTs := (gm2 (i := 195) (by decide +kernel) rfl)
theorem ml_X0_39 : Cond.methodLink RX0 39 yX0_setHole ∈ gTs := (gm2 (i := 200) (by decide +kernel) rfl)
theorem ml_X0_67 : Cond.methodLink RX0 67 yJ13_bitCount_95d88 ∈ gTs := (gm2 (i := 204) (by decide +kernel) rfl)
theorem ml_L_64 : Cond.methodLink RL 64 yX4_soundShare ∈ gTs := (gm2 (i := 205) (by decide +kernel) rfl)
theorem kd_X4_200 : Cond.constantDouble RX4 200 (4634204016564240384) ∈ gTs := (gm2 (i := 209) (by decide +kernel) rfl)
theorem ml_L_68 : Cond.methodLink RL 68 yX4_sees ∈ gTs := (gm2 (i := 210) (by decide +kernel) rfl)
theorem ml_X0_72 : Cond.methodLink RX0 72 yX0_showsBack ∈ gTs := (gm2 (i := 218) (by decide +kernel) rfl)
theorem ml_X0_76 : Cond.methodLink RX0 76 yX0_seenCell ∈ gTs := (gm2 (i := 222) (by decide +kernel) rfl)
theorem ml_X0_79 : Cond.methodLink RX0 79 yX0_hasHole ∈ gTs := (gm2 (i := 226) (by decide +kernel) rfl)
theorem ml_L_72 : Cond.methodLink RL 72 yX4_raw ∈ gTs := (gm2 (i := 230) (by decide +kernel) rfl)
theorem ml_X0_83 : Cond.methodLink RX0 83 yX0_showsHole ∈ gTs := (gm2 (i := 238) (by decide +kernel) rfl)
theorem ml_L_75 : Cond.methodLink RL 75 yX4_lose ∈ gTs := (gm2 (i := 239) (by decide +kernel) rfl)
theorem ml_L_78 : Cond.methodLink RL 78 yX4_wear ∈ gTs := (gm3 (i := 8) (by decide +kernel) rfl)
theorem ml_L_81 : Cond.methodLink RL 81 yX4_punch ∈ gTs := (gm3 (i := 13) (by decide +kernel) rfl)
theorem ml_X4_51 : Cond.methodLink RX4 51 yX4_requireRowWithValue ∈ gTs := (gm3 (i := 17) (by decide +kernel) rfl)
theorem ml_X0_51 : Cond.methodLink RX0 51 yJ6_bitCount_0f7a4 ∈ gTs := (gm3 (i := 31) (by decide +kernel) rfl)
theorem ki_J6_265 : Cond.constant RJ6 265 (1431655765) ∈ gTs := (gm3 (i := 34) (by decide +kernel) rfl)
theorem ki_J6_266 : Cond.constant RJ6 266 (858993459) ∈ gTs := (gm3 (i := 35) (by decide +kernel) rfl)
theorem ki_J6_267 : Cond.constant RJ6 267 (252645135) ∈ gTs := (gm3 (i := 36) (by decide +kernel) rfl)
theorem ml_L_84 : Cond.methodLink RL 84 yX4_read ∈ gTs := (gm3 (i := 37) (by decide +kernel) rfl)
theorem ml_X4_185 : Cond.methodLink RX4 185 yX4_rowValue ∈ gTs := (gm3 (i := 41) (by decide +kernel) rfl)
theorem ml_L_87 : Cond.methodLink RL 87 yX4_value ∈ gTs := (gm3 (i := 44) (by decide +kernel) rfl)
theorem ml_L_119 : Cond.methodLink RL 119 yL_holds ∈ gTs := (gm3 (i := 48) (by decide +kernel) rfl)
theorem ml_L_90 : Cond.methodLink RL 90 yX4_disagreements ∈ gTs := (gm3 (i := 51) (by decide +kernel) rfl)
theorem ml_X3_45 : Cond.methodLink RX3 45 yX3_disagrees ∈ gTs := (gm3 (i := 59) (by decide +kernel) rfl)
theorem ml_L_93 : Cond.methodLink RL 93 yX4_disagreement ∈ gTs := (gm3 (i := 63) (by decide +kernel) rfl)
theorem ml_L_96 : Cond.methodLink RL 96 yX4_told ∈ gTs := (gm3 (i := 72) (by decide +kernel) rfl)
theorem ml_L_99 : Cond.methodLink RL 99 yX4_untoldIf ∈ gTs := (gm3 (i := 81) (by decide +kernel) rfl)
theorem kd_L_102 : Cond.constantDouble RL 102 (4634204016564240384) ∈ gTs := (gm3 (i := 85) (by decide +kernel) rfl)
theorem ml_L_132 : Cond.methodLink RL 132 yL_isSeen ∈ gTs := (gm3 (i := 86) (by decide +kernel) rfl)
theorem ml_L_104 : Cond.methodLink RL 104 yX4_digest ∈ gTs := (gm3 (i := 89) (by decide +kernel) rfl)
theorem kl_X4_244 : Cond.constantLong RX4 244 (4876) ∈ gTs := (gm3 (i := 93) (by decide +kernel) rfl)
theorem ml_X4_246 : Cond.methodLink RX4 246 yX4_mixed ∈ gTs := (gm3 (i := 94) (by decide +kernel) rfl)
theorem kl_X4_261 : Cond.constantLong RX4 261 (31) ∈ gTs := (gm3 (i := 97) (by decide +kernel) rfl)
theorem ml_X4_250 : Cond.methodLink RX4 250 yX4_mixedWithCounts ∈ gTs := (gm3 (i := 98) (by decide +kernel) rfl)
theorem ml_X4_254 : Cond.methodLink RX4 254 yX4_mixedWithRows ∈ gTs := (gm3 (i := 101) (by decide +kernel) rfl)
theorem ml_X4_258 : Cond.methodLink RX4 258 yX4_mixedWithCells ∈ gTs := (gm3 (i := 104) (by decide +kernel) rfl)
theorem ml_L_108 : Cond.methodLink RL 108 yL_reversed ∈ gTs := (gm3 (i := 107) (by decide +kernel) rfl)
theorem ml_L_135 : Cond.methodLink RL 135 yL_isAhead ∈ gTs := (gm3 (i := 110) (by decide +kernel) rfl)
def gKV (C : String) (y : MethodName) (cc : ByteArray) (maxL : Nat) (ret : Option FieldType) (n : Nat) : Prop := (Cond.instanceMethod y ∈ gTs ∧ Cond.selects C y y ∈ gTs ∧ Cond.initialized C ∈ gTs ∧ Cond.code y cc maxL ret ∈ gTs) ∧ (y.cls = C ∧ y.cls ≠ "java/lang/invoke/MethodHandle" ∧ y.cls ≠ "java/lang/invoke/VarHandle" ∧ (parseMethodDescriptor y.desc).map (fun d => d.parameters.length) = some n)
def gKS (y : MethodName) (cc : ByteArray) (maxL : Nat) (ret : Option FieldType) (n : Nat) : Prop := (Cond.static y ∈ gTs ∧ Cond.initialized y.cls ∈ gTs ∧ Cond.code y cc maxL ret ∈ gTs) ∧ (y.cls ≠ "java/lang/invoke/MethodHandle" ∧ y.cls ≠ "java/lang/invoke/VarHandle" ∧ (parseMethodDescriptor y.desc).map (fun d => d.parameters.length) = some n)
def gKH (y : MethodName) (cc : ByteArray) (maxL : Nat) (ret : Option FieldType) (hh : List (Nat × Nat × Nat × Nat)) (n : Nat) : Prop := (Cond.static y ∈ gTs ∧ Cond.initialized y.cls ∈ gTs ∧ Cond.codeWith y cc maxL ret hh ∈ gTs) ∧ (y.cls ≠ "java/lang/invoke/MethodHandle" ∧ y.cls ≠ "java/lang/invoke/VarHandle" ∧ (parseMethodDescriptor y.desc).map (fun d => d.parameters.length) = some n)
def gKI (y : MethodName) (cc : ByteArray) (maxL : Nat) (n : Nat) : Prop := (Cond.instanceMethod y ∈ gTs ∧ Cond.initialized y.cls ∈ gTs ∧ Cond.code y cc maxL none ∈ gTs) ∧ y.name = "<init>" ∧ (y.cls ≠ "java/lang/invoke/MethodHandle" ∧ y.cls ≠ "java/lang/invoke/VarHandle" ∧ (parseMethodDescriptor y.desc).map (fun d => d.parameters.length) = some n)
theorem gdec {y : MethodName} {n : Nat} (h : decide (y.cls ≠ "java/lang/invoke/MethodHandle") = true) (h2 : decide (y.cls ≠ "java/lang/invoke/VarHandle") = true) (h3 : decide ((parseMethodDescriptor y.desc).map (fun d => d.parameters.length) = some n) = true) : y.cls ≠ "java/lang/invoke/MethodHandle" ∧ y.cls ≠ "java/lang/invoke/VarHandle" ∧ (parseMethodDescriptor y.desc).map (fun d => d.parameters.length) = some n := ⟨of_decide_eq_true h, of_decide_eq_true h2, of_decide_eq_true h3⟩
theorem k_X0_init : gKI yX0_init cX0_init 1 0 := ⟨⟨(gm1 (i := 30) (by decide +kernel) rfl), (gm1 (i := 2) (by decide +kernel) rfl), (gm1 (i := 31) rfl rfl)⟩, rfl, (gdec (by decide +kernel) (by decide +kernel) (by decide +kernel))⟩
theorem k_X0_clear : gKV RX0 yX0_clear cX0_clear 1 none 0 := ⟨⟨(gm2 (i := 117) (by decide +kernel) rfl), (gp1 (y := yX0_clear) (i := 14) (n := 3) (by decide +kernel) rfl), (gm1 (i := 2) (by decide +kernel) rfl), (gm2 (i := 118) rfl rfl)⟩, rfl, (gdec (by decide +kernel) (by decide +kernel) (by decide +kernel))⟩
theorem k_X0_become : gKV RX0 yX0_become cX0_become 2 none 1 := ⟨⟨(gm2 (i := 42) (by decide +kernel) rfl), (gp1 (y := yX0_become) (i := 10) (n := 3) (by decide +kernel) rfl), (gm1 (i := 2) (by decide +kernel) rfl), (gm2 (i := 43) rfl rfl)⟩, rfl, (gdec (by decide +kernel) (by decide +kernel) (by decide +kernel))⟩
theorem k_X0_sound : gKV RX0 yX0_sound cX0_sound 1 (some .long) 0 := ⟨⟨(gm1 (i := 230) (by decide +kernel) rfl), (gp1 (y := yX0_sound) (i := 4) (n := 3) (by decide +kernel) rfl), (gm1 (i := 2) (by decide +kernel) rfl), (gm1 (i := 231) rfl rfl)⟩, rfl, (gdec (by decide +kernel) (by decide +kernel) (by decide +kernel))⟩
theorem k_X0_ones : gKV RX0 yX0_ones cX0_ones 1 (some .long) 0 := ⟨⟨(gm1 (i := 238) (by decide +kernel) rfl), (gp1 (y := yX0_ones) (i := 5) (n := 3) (by decide +kernel) rfl), (gm1 (i := 2) (by decide +kernel) rfl), (gm1 (i := 239) rfl rfl)⟩, rfl, (gdec (by decide +kernel) (by decide +kernel) (by decide +kernel))⟩
theorem k_X0_blank : gKV RX0 yX0_blank cX0_blank 1 (some .long) 0 := ⟨⟨(gm2 (i := 131) (by decide +kernel) rfl), (gp2 (y := yX0_blank) (i := 0) (n := 3) (by decide +kernel) rfl), (gm1 (i := 2) (by decide +kernel) rfl), (gm2 (i := 132) rfl rfl)⟩, rfl, (gdec (by decide +kernel) (by decide +kernel) (by decide +kernel))⟩
theorem k_X0_cellsOfKind : gKV RX0 yX0_cellsOfKind cX0_cellsOfKind 2 (some .long) 1 := ⟨⟨(gm2 (i := 126) (by decide +kernel) rfl), (gp1 (y := yX0_cellsOfKind) (i := 15) (n := 3) (by decide +kernel) rfl), (gm1 (i := 2) (by decide +kernel) rfl), (gm2 (i := 127) rfl rfl)⟩, rfl, (gdec (by decide +kernel) (by decide +kernel) (by decide +kernel))⟩
theorem k_X0_kindAt : gKV RX0 yX0_kindAt cX0_kindAt 2 (some .int) 1 := ⟨⟨(gm2 (i := 93) (by decide +kernel) rfl), (gp1 (y := yX0_kindAt) (i := 11) (n := 3) (by decide +kernel) rfl), (gm1 (i := 2) (by decide +kernel) rfl), (gm2 (i := 94) rfl rfl)⟩, rfl, (gdec (by decide +kernel) (by decide +kernel) (by decide +kernel))⟩
theorem k_X0_hasHole : gKV RX0 yX0_hasHole cX0_hasHole 3 (some .boolean) 2 := ⟨⟨(gm2 (i := 228) (by decide +kernel) rfl), (gp2 (y := yX0_hasHole) (i := 9) (n := 3) (by decide +kernel) rfl), (gm1 (i := 2) (by decide +kernel) rfl), (gm2 (i := 229) rfl rfl)⟩, rfl, (gdec (by decide +kernel) (by decide +kernel) (by decide +kernel))⟩
theorem k_X0_setHole : gKV RX0 yX0_setHole cX0_setHole 6 none 3 := ⟨⟨(gm2 (i := 202) (by decide +kernel) rfl), (gp2 (y := yX0_setHole) (i := 5) (n := 3) (by decide +kernel) rfl), (gm1 (i := 2) (by decide +kernel) rfl), (gm2 (i := 203) rfl rfl)⟩, rfl, (gdec (by decide +kernel) (by decide +kernel) (by decide +kernel))⟩
theorem k_X0_punchBit : gKV RX0 yX0_punchBit cX0_punchBit 4 none 3 := ⟨⟨(gm2 (i := 197) (by decide +kernel) rfl), (gp2 (y := yX0_punchBit) (i := 4) (n := 3) (by decide +kernel) rfl), (gm1 (i := 2) (by decide +kernel) rfl), (gm2 (i := 198) rfl rfl)⟩, rfl, (gdec (by decide +kernel) (by decide +kernel) (by decide +kernel))⟩
theorem k_X0_canPunch : gKV RX0 yX0_canPunch cX0_canPunch 2 (some .boolean) 1 := ⟨⟨(gm3 (i := 24) (by decide +kernel) rfl), (gp2 (y := yX0_canPunch) (i := 11) (n := 3) (by decide +kernel) rfl), (gm1 (i := 2) (by decide +kernel) rfl), (gm3 (i := 25) rfl rfl)⟩, rfl, (gdec (by decide +kernel) (by decide +kernel) (by decide +kernel))⟩
theorem k_X0_punchRow : gKV RX0 yX0_punchRow cX0_punchRow 4 (some .int) 2 := ⟨⟨(gm3 (i := 29) (by decide +kernel) rfl), (gp2 (y := yX0_punchRow) (i := 12) (n := 3) (by decide +kernel) rfl), (gm1 (i := 2) (by decide +kernel) rfl), (gm3 (i := 30) rfl rfl)⟩, rfl, (gdec (by decide +kernel) (by decide +kernel) (by decide +kernel))⟩
theorem k_X0_canClose : gKV RX0 yX0_canClose cX0_canClose 3 (some .boolean) 0 := ⟨⟨(gm2 (i := 184) (by decide +kernel) rfl), (gp2 (y := yX0_canClose) (i := 2) (n := 3) (by decide +kernel) rfl), (gm1 (i := 2) (by decide +kernel) rfl), (gm2 (i := 185) rfl rfl)⟩, rfl, (gdec (by decide +kernel) (by decide +kernel) (by decide +kernel))⟩
theorem k_X0_punchCheckRow : gKV RX0 yX0_punchCheckRow cX0_punchCheckRow 4 (some .int) 0 := ⟨⟨(gm2 (i := 191) (by decide +kernel) rfl), (gp2 (y := yX0_punchCheckRow) (i := 3) (n := 3) (by decide +kernel) rfl), (gm1 (i := 2) (by decide +kernel) rfl), (gm2 (i := 192) rfl rfl)⟩, rfl, (gdec (by decide +kernel) (by decide +kernel) (by decide +kernel))⟩
theorem k_X0_showsBack : gKV RX0 yX0_showsBack cX0_showsBack 1 (some .boolean) 0 := ⟨⟨(gm2 (i := 220) (by decide +kernel) rfl), (gp2 (y := yX0_showsBack) (i := 7) (n := 3) (by decide +kernel) rfl), (gm1 (i := 2) (by decide +kernel) rfl), (gm2 (i := 221) rfl rfl)⟩, rfl, (gdec (by decide +kernel) (by decide +kernel) (by decide +kernel))⟩
theorem k_X0_seenCell : gKV RX0 yX0_seenCell cX0_seenCell 5 (some .int) 2 := ⟨⟨(gm2 (i := 224) (by decide +kernel) rfl), (gp2 (y := yX0_seenCell) (i := 8) (n := 3) (by decide +kernel) rfl), (gm1 (i := 2) (by decide +kernel) rfl), (gm2 (i := 225) rfl rfl)⟩, rfl, (gdec (by decide +kernel) (by decide +kernel) (by decide +kernel))⟩
theorem k_X0_showsHole : gKV RX0 yX0_showsHole cX0_showsHole 3 (some .boolean) 2 := ⟨⟨(gm2 (i := 216) (by decide +kernel) rfl), (gp2 (y := yX0_showsHole) (i := 6) (n := 3) (by decide +kernel) rfl), (gm1 (i := 2) (by decide +kernel) rfl), (gm2 (i := 217) rfl rfl)⟩, rfl, (gdec (by decide +kernel) (by decide +kernel) (by decide +kernel))⟩
theorem k_X0_rawNumber : gKV RX0 yX0_rawNumber cX0_rawNumber 4 (some .int) 1 := ⟨⟨(gm2 (i := 236) (by decide +kernel) rfl), (gp2 (y := yX0_rawNumber) (i := 10) (n := 3) (by decide +kernel) rfl), (gm1 (i := 2) (by decide +kernel) rfl), (gm2 (i := 237) rfl rfl)⟩, rfl, (gdec (by decide +kernel) (by decide +kernel) (by decide +kernel))⟩
theorem k_X1_init : gKI yX1_init cX1_init 2 0 := ⟨⟨(gm1 (i := 64) (by decide +kernel) rfl), (gm1 (i := 4) (by decide +kernel) rfl), (gm1 (i := 65) rfl rfl)⟩, rfl, (gdec (by decide +kernel) (by decide +kernel) (by decide +kernel))⟩
theorem k_X1_save : gKV RX1 yX1_save cX1_save 4 none 1 := ⟨⟨(gm2 (i := 109) (by decide +kernel) rfl), (gp1 (y := yX1_save) (i := 12) (n := 2) (by decide +kernel) rfl), (gm1 (i := 4) (by decide +kernel) rfl), (gm2 (i := 110) rfl rfl)⟩, rfl, (gdec (by decide +kernel) (by decide +kernel) (by decide +kernel))⟩
theorem k_X1_discardOldest : gKV RX1 yX1_discardOldest cX1_discardOldest 2 none 0 := ⟨⟨(gm2 (i := 113) (by decide +kernel) rfl), (gp1 (y := yX1_discardOldest) (i := 13) (n := 2) (by decide +kernel) rfl), (gm1 (i := 4) (by decide +kernel) rfl), (gm2 (i := 114) rfl rfl)⟩, rfl, (gdec (by decide +kernel) (by decide +kernel) (by decide +kernel))⟩
theorem k_X1_restores : gKV RX1 yX1_restores cX1_restores 4 (some .boolean) 1 := ⟨⟨(gm2 (i := 38) (by decide +kernel) rfl), (gp1 (y := yX1_restores) (i := 9) (n := 2) (by decide +kernel) rfl), (gm1 (i := 4) (by decide +kernel) rfl), (gm2 (i := 39) rfl rfl)⟩, rfl, (gdec (by decide +kernel) (by decide +kernel) (by decide +kernel))⟩
theorem k_X2_init : gKI yX2_init cX2_init 1 0 := ⟨⟨(gm1 (i := 80) (by decide +kernel) rfl), (gm1 (i := 5) (by decide +kernel) rfl), (gm1 (i := 81) rfl rfl)⟩, rfl, (gdec (by decide +kernel) (by decide +kernel) (by decide +kernel))⟩
theorem k_X3_init : gKI yX3_init cX3_init 1 0 := ⟨⟨(gm1 (i := 49) (by decide +kernel) rfl), (gm1 (i := 3) (by decide +kernel) rfl), (gm1 (i := 50) rfl rfl)⟩, rfl, (gdec (by decide +kernel) (by decide +kernel) (by decide +kernel))⟩
theorem k_X3_findAll : gKV RX3 yX3_findAll cX3_findAll 9 none 2 := ⟨⟨(gm2 (i := 3) (by decide +kernel) rfl), (gp1 (y := yX3_findAll) (i := 6) (n := 2) (by decide +kernel) rfl), (gm1 (i := 3) (by decide +kernel) rfl), (gm2 (i := 4) rfl rfl)⟩, rfl, (gdec (by decide +kernel) (by decide +kernel) (by decide +kernel))⟩
theorem k_X3_tellLastOf : gKV RX3 yX3_tellLastOf cX3_tellLastOf 5 none 1 := ⟨⟨(gm2 (i := 11) (by decide +kernel) rfl), (gp1 (y := yX3_tellLastOf) (i := 7) (n := 2) (by decide +kernel) rfl), (gm1 (i := 3) (by decide +kernel) rfl), (gm2 (i := 12) rfl rfl)⟩, rfl, (gdec (by decide +kernel) (by decide +kernel) (by decide +kernel))⟩
theorem k_X3_unknownCells : gKV RX3 yX3_unknownCells cX3_unknownCells 1 (some .int) 0 := ⟨⟨(gm2 (i := 30) (by decide +kernel) rfl), (gp1 (y := yX3_unknownCells) (i := 8) (n := 2) (by decide +kernel) rfl), (gm1 (i := 3) (by decide +kernel) rfl), (gm2 (i := 31) rfl rfl)⟩, rfl, (gdec (by decide +kernel) (by decide +kernel) (by decide +kernel))⟩
theorem k_X3_bitAt : gKV RX3 yX3_bitAt cX3_bitAt 2 (some .int) 1 := ⟨⟨(gm3 (i := 78) (by decide +kernel) rfl), (gp3 (y := yX3_bitAt) (i := 0) (n := 2) (by decide +kernel) rfl), (gm1 (i := 3) (by decide +kernel) rfl), (gm3 (i := 79) rfl rfl)⟩, rfl, (gdec (by decide +kernel) (by decide +kernel) (by decide +kernel))⟩
theorem k_X3_disagrees : gKV RX3 yX3_disagrees cX3_disagrees 4 (some .boolean) 1 := ⟨⟨(gm3 (i := 61) (by decide +kernel) rfl), (gp2 (y := yX3_disagrees) (i := 14) (n := 2) (by decide +kernel) rfl), (gm1 (i := 3) (by decide +kernel) rfl), (gm3 (i := 62) rfl rfl)⟩, rfl, (gdec (by decide +kernel) (by decide +kernel) (by decide +kernel))⟩
theorem k_X3_disagreeingLines : gKV RX3 yX3_disagreeingLines cX3_disagreeingLines 3 (some .int) 0 := ⟨⟨(gm3 (i := 57) (by decide +kernel) rfl), (gp2 (y := yX3_disagreeingLines) (i := 13) (n := 2) (by decide +kernel) rfl), (gm1 (i := 3) (by decide +kernel) rfl), (gm3 (i := 58) rfl rfl)⟩, rfl, (gdec (by decide +kernel) (by decide +kernel) (by decide +kernel))⟩
theorem k_X3_disagreeingLine : gKV RX3 yX3_disagreeingLine cX3_disagreeingLine 4 (some .int) 1 := ⟨⟨(gm3 (i := 70) (by decide +kernel) rfl), (gp2 (y := yX3_disagreeingLine) (i := 15) (n := 2) (by decide +kernel) rfl), (gm1 (i := 3) (by decide +kernel) rfl), (gm3 (i := 71) rfl rfl)⟩, rfl, (gdec (by decide +kernel) (by decide +kernel) (by decide +kernel))⟩
theorem k_X4_init : gKI yX4_init cX4_init 2 0 := ⟨⟨(gm1 (i := 21) (by decide +kernel) rfl), (gm1 (i := 1) (by decide +kernel) rfl), (gm1 (i := 22) rfl rfl)⟩, rfl, (gdec (by decide +kernel) (by decide +kernel) (by decide +kernel))⟩
theorem k_X4_punch : gKV RX4 yX4_punch cX4_punch 5 (some .int) 3 := ⟨⟨(gm3 (i := 14) (by decide +kernel) rfl), (gm3 (i := 15) (by decide +kernel) rfl), (gm1 (i := 1) (by decide +kernel) rfl), (gm3 (i := 16) rfl rfl)⟩, rfl, (gdec (by decide +kernel) (by decide +kernel) (by decide +kernel))⟩
theorem k_X4_close : gKV RX4 yX4_close cX4_close 3 (some .int) 1 := ⟨⟨(gm2 (i := 179) (by decide +kernel) rfl), (gm2 (i := 180) (by decide +kernel) rfl), (gm1 (i := 1) (by decide +kernel) rfl), (gm2 (i := 181) rfl rfl)⟩, rfl, (gdec (by decide +kernel) (by decide +kernel) (by decide +kernel))⟩
theorem k_X4_renew : gKV RX4 yX4_renew cX4_renew 4 (some .int) 1 := ⟨⟨(gm2 (i := 104) (by decide +kernel) rfl), (gm2 (i := 105) (by decide +kernel) rfl), (gm1 (i := 1) (by decide +kernel) rfl), (gm2 (i := 106) rfl rfl)⟩, rfl, (gdec (by decide +kernel) (by decide +kernel) (by decide +kernel))⟩
theorem k_X4_copy : gKV RX4 yX4_copy cX4_copy 6 (some .int) 2 := ⟨⟨(gm2 (i := 142) (by decide +kernel) rfl), (gm2 (i := 143) (by decide +kernel) rfl), (gm1 (i := 1) (by decide +kernel) rfl), (gm2 (i := 144) rfl rfl)⟩, rfl, (gdec (by decide +kernel) (by decide +kernel) (by decide +kernel))⟩
theorem k_X4_wear : gKV RX4 yX4_wear cX4_wear 6 (some .int) 3 := ⟨⟨(gm3 (i := 9) (by decide +kernel) rfl), (gm3 (i := 10) (by decide +kernel) rfl), (gm1 (i := 1) (by decide +kernel) rfl), (gm3 (i := 11) rfl rfl)⟩, rfl, (gdec (by decide +kernel) (by decide +kernel) (by decide +kernel))⟩
theorem k_X4_lose : gKV RX4 yX4_lose cX4_lose 6 (some .int) 3 := ⟨⟨(gm3 (i := 0) (by decide +kernel) rfl), (gm3 (i := 1) (by decide +kernel) rfl), (gm1 (i := 1) (by decide +kernel) rfl), (gm3 (i := 2) rfl rfl)⟩, rfl, (gdec (by decide +kernel) (by decide +kernel) (by decide +kernel))⟩
theorem k_X4_turn : gKV RX4 yX4_turn cX4_turn 5 (some .int) 2 := ⟨⟨(gm2 (i := 168) (by decide +kernel) rfl), (gm2 (i := 169) (by decide +kernel) rfl), (gm1 (i := 1) (by decide +kernel) rfl), (gm2 (i := 170) rfl rfl)⟩, rfl, (gdec (by decide +kernel) (by decide +kernel) (by decide +kernel))⟩
theorem k_X4_view : gKV RX4 yX4_view cX4_view 2 (some .int) 1 := ⟨⟨(gm2 (i := 97) (by decide +kernel) rfl), (gm2 (i := 98) (by decide +kernel) rfl), (gm1 (i := 1) (by decide +kernel) rfl), (gm2 (i := 99) rfl rfl)⟩, rfl, (gdec (by decide +kernel) (by decide +kernel) (by decide +kernel))⟩
theorem k_X4_sees : gKV RX4 yX4_sees cX4_sees 5 (some .boolean) 3 := ⟨⟨(gm2 (i := 211) (by decide +kernel) rfl), (gm2 (i := 212) (by decide +kernel) rfl), (gm1 (i := 1) (by decide +kernel) rfl), (gm2 (i := 213) rfl rfl)⟩, rfl, (gdec (by decide +kernel) (by decide +kernel) (by decide +kernel))⟩
theorem k_X4_raw : gKV RX4 yX4_raw cX4_raw 4 (some .int) 2 := ⟨⟨(gm2 (i := 231) (by decide +kernel) rfl), (gm2 (i := 232) (by decide +kernel) rfl), (gm1 (i := 1) (by decide +kernel) rfl), (gm2 (i := 233) rfl rfl)⟩, rfl, (gdec (by decide +kernel) (by decide +kernel) (by decide +kernel))⟩
theorem k_X4_kind : gKV RX4 yX4_kind cX4_kind 5 (some .int) 3 := ⟨⟨(gm2 (i := 78) (by decide +kernel) rfl), (gm2 (i := 79) (by decide +kernel) rfl), (gm1 (i := 1) (by decide +kernel) rfl), (gm2 (i := 80) rfl rfl)⟩, rfl, (gdec (by decide +kernel) (by decide +kernel) (by decide +kernel))⟩
theorem k_X4_told : gKV RX4 yX4_told cX4_told 5 (some .int) 3 := ⟨⟨(gm3 (i := 73) (by decide +kernel) rfl), (gm3 (i := 74) (by decide +kernel) rfl), (gm1 (i := 1) (by decide +kernel) rfl), (gm3 (i := 75) rfl rfl)⟩, rfl, (gdec (by decide +kernel) (by decide +kernel) (by decide +kernel))⟩
theorem k_X4_count : gKV RX4 yX4_count cX4_count 4 (some .int) 2 := ⟨⟨(gm2 (i := 120) (by decide +kernel) rfl), (gm2 (i := 121) (by decide +kernel) rfl), (gm1 (i := 1) (by decide +kernel) rfl), (gm2 (i := 122) rfl rfl)⟩, rfl, (gdec (by decide +kernel) (by decide +kernel) (by decide +kernel))⟩
theorem k_X4_read : gKV RX4 yX4_read cX4_read 4 (some .int) 2 := ⟨⟨(gm3 (i := 38) (by decide +kernel) rfl), (gm3 (i := 39) (by decide +kernel) rfl), (gm1 (i := 1) (by decide +kernel) rfl), (gm3 (i := 40) rfl rfl)⟩, rfl, (gdec (by decide +kernel) (by decide +kernel) (by decide +kernel))⟩
theorem k_X4_value : gKV RX4 yX4_value cX4_value 5 (some .int) 2 := ⟨⟨(gm3 (i := 45) (by decide +kernel) rfl), (gm3 (i := 46) (by decide +kernel) rfl), (gm1 (i := 1) (by decide +kernel) rfl), (gm3 (i := 47) rfl rfl)⟩, rfl, (gdec (by decide +kernel) (by decide +kernel) (by decide +kernel))⟩
theorem k_X4_untold : gKV RX4 yX4_untold cX4_untold 2 (some .int) 1 := ⟨⟨(gm2 (i := 134) (by decide +kernel) rfl), (gm2 (i := 135) (by decide +kernel) rfl), (gm1 (i := 1) (by decide +kernel) rfl), (gm2 (i := 136) rfl rfl)⟩, rfl, (gdec (by decide +kernel) (by decide +kernel) (by decide +kernel))⟩
theorem k_X4_disagreements : gKV RX4 yX4_disagreements cX4_disagreements 2 (some .int) 1 := ⟨⟨(gm3 (i := 52) (by decide +kernel) rfl), (gm3 (i := 53) (by decide +kernel) rfl), (gm1 (i := 1) (by decide +kernel) rfl), (gm3 (i := 54) rfl rfl)⟩, rfl, (gdec (by decide +kernel) (by decide +kernel) (by decide +kernel))⟩
theorem k_X4_disagreement : gKV RX4 yX4_disagreement cX4_disagreement 4 (some .int) 2 := ⟨⟨(gm3 (i := 64) (by decide +kernel) rfl), (gm3 (i := 65) (by decide +kernel) rfl), (gm1 (i := 1) (by decide +kernel) rfl), (gm3 (i := 66) rfl rfl)⟩, rfl, (gdec (by decide +kernel) (by decide +kernel) (by decide +kernel))⟩
theorem k_X4_soundShare : gKV RX4 yX4_soundShare cX4_soundShare 3 (some .double) 1 := ⟨⟨(gm2 (i := 206) (by decide +kernel) rfl), (gm2 (i := 207) (by decide +kernel) rfl), (gm1 (i := 1) (by decide +kernel) rfl), (gm2 (i := 208) rfl rfl)⟩, rfl, (gdec (by decide +kernel) (by decide +kernel) (by decide +kernel))⟩
theorem k_X4_untoldIf : gKV RX4 yX4_untoldIf cX4_untoldIf 5 (some .int) 3 := ⟨⟨(gm3 (i := 82) (by decide +kernel) rfl), (gm3 (i := 83) (by decide +kernel) rfl), (gm1 (i := 1) (by decide +kernel) rfl), (gm3 (i := 84) rfl rfl)⟩, rfl, (gdec (by decide +kernel) (by decide +kernel) (by decide +kernel))⟩
theorem k_X4_worst : gKV RX4 yX4_worst cX4_worst 2 (some .int) 1 := ⟨⟨(gm1 (i := 146) (by decide +kernel) rfl), (gm1 (i := 147) (by decide +kernel) rfl), (gm1 (i := 1) (by decide +kernel) rfl), (gm1 (i := 148) rfl rfl)⟩, rfl, (gdec (by decide +kernel) (by decide +kernel) (by decide +kernel))⟩
theorem k_X4_difference : gKV RX4 yX4_difference cX4_difference 10 (some .int) 2 := ⟨⟨(gm2 (i := 163) (by decide +kernel) rfl), (gm2 (i := 164) (by decide +kernel) rfl), (gm1 (i := 1) (by decide +kernel) rfl), (gm2 (i := 165) rfl rfl)⟩, rfl, (gdec (by decide +kernel) (by decide +kernel) (by decide +kernel))⟩
theorem k_X4_undo : gKV RX4 yX4_undo cX4_undo 1 (some .int) 0 := ⟨⟨(gm2 (i := 33) (by decide +kernel) rfl), (gm2 (i := 34) (by decide +kernel) rfl), (gm1 (i := 1) (by decide +kernel) rfl), (gm2 (i := 35) rfl rfl)⟩, rfl, (gdec (by decide +kernel) (by decide +kernel) (by decide +kernel))⟩
theorem k_X4_savedStates : gKV RX4 yX4_savedStates cX4_savedStates 1 (some .int) 0 := ⟨⟨(gm2 (i := 61) (by decide +kernel) rfl), (gm2 (i := 62) (by decide +kernel) rfl), (gm1 (i := 1) (by decide +kernel) rfl), (gm2 (i := 63) rfl rfl)⟩, rfl, (gdec (by decide +kernel) (by decide +kernel) (by decide +kernel))⟩
theorem k_X4_digest : gKV RX4 yX4_digest cX4_digest 6 (some .long) 0 := ⟨⟨(gm3 (i := 90) (by decide +kernel) rfl), (gm3 (i := 91) (by decide +kernel) rfl), (gm1 (i := 1) (by decide +kernel) rfl), (gm3 (i := 92) rfl rfl)⟩, rfl, (gdec (by decide +kernel) (by decide +kernel) (by decide +kernel))⟩
theorem k_X4_mixed : gKS yX4_mixed cX4_mixed 3 (some .long) 2 := ⟨⟨(gm3 (i := 95) (by decide +kernel) rfl), (gm1 (i := 1) (by decide +kernel) rfl), (gm3 (i := 96) rfl rfl)⟩, (gdec (by decide +kernel) (by decide +kernel) (by decide +kernel))⟩
theorem k_X4_mixedWithCounts : gKS yX4_mixedWithCounts cX4_mixedWithCounts 6 (some .long) 2 := ⟨⟨(gm3 (i := 99) (by decide +kernel) rfl), (gm1 (i := 1) (by decide +kernel) rfl), (gm3 (i := 100) rfl rfl)⟩, (gdec (by decide +kernel) (by decide +kernel) (by decide +kernel))⟩
theorem k_X4_mixedWithRows : gKS yX4_mixedWithRows cX4_mixedWithRows 7 (some .long) 3 := ⟨⟨(gm3 (i := 102) (by decide +kernel) rfl), (gm1 (i := 1) (by decide +kernel) rfl), (gm3 (i := 103) rfl rfl)⟩, (gdec (by decide +kernel) (by decide +kernel) (by decide +kernel))⟩
theorem k_X4_mixedWithCells : gKS yX4_mixedWithCells cX4_mixedWithCells 7 (some .long) 3 := ⟨⟨(gm3 (i := 105) (by decide +kernel) rfl), (gm1 (i := 1) (by decide +kernel) rfl), (gm3 (i := 106) rfl rfl)⟩, (gdec (by decide +kernel) (by decide +kernel) (by decide +kernel))⟩
theorem k_X4_cardAt : gKV RX4 yX4_cardAt cX4_cardAt 2 (some (.object "MirrorCards$Card")) 1 := ⟨⟨(gm1 (i := 151) (by decide +kernel) rfl), (gp1 (y := yX4_cardAt) (i := 0) (n := 6) (by decide +kernel) rfl), (gm1 (i := 1) (by decide +kernel) rfl), (gm1 (i := 152) rfl rfl)⟩, rfl, (gdec (by decide +kernel) (by decide +kernel) (by decide +kernel))⟩
theorem k_X4_tellingOf : gKV RX4 yX4_tellingOf cX4_tellingOf 2 (some (.object "MirrorCards$Telling")) 1 := ⟨⟨(gm2 (i := 139) (by decide +kernel) rfl), (gp2 (y := yX4_tellingOf) (i := 1) (n := 6) (by decide +kernel) rfl), (gm1 (i := 1) (by decide +kernel) rfl), (gm2 (i := 140) rfl rfl)⟩, rfl, (gdec (by decide +kernel) (by decide +kernel) (by decide +kernel))⟩
theorem k_X4_requireInSide : gKS yX4_requireInSide cX4_requireInSide 1 none 1 := ⟨⟨(gm2 (i := 85) (by decide +kernel) rfl), (gm1 (i := 1) (by decide +kernel) rfl), (gm2 (i := 86) rfl rfl)⟩, (gdec (by decide +kernel) (by decide +kernel) (by decide +kernel))⟩
theorem k_X4_requireCell : gKS yX4_requireCell cX4_requireCell 2 none 2 := ⟨⟨(gm2 (i := 82) (by decide +kernel) rfl), (gm1 (i := 1) (by decide +kernel) rfl), (gm2 (i := 83) rfl rfl)⟩, (gdec (by decide +kernel) (by decide +kernel) (by decide +kernel))⟩
theorem k_X4_requireRowWithValue : gKS yX4_requireRowWithValue cX4_requireRowWithValue 1 none 1 := ⟨⟨(gm3 (i := 18) (by decide +kernel) rfl), (gm1 (i := 1) (by decide +kernel) rfl), (gm3 (i := 19) rfl rfl)⟩, (gdec (by decide +kernel) (by decide +kernel) (by decide +kernel))⟩
theorem k_X4_cellNumber : gKS yX4_cellNumber cX4_cellNumber 2 (some .int) 2 := ⟨⟨(gm2 (i := 89) (by decide +kernel) rfl), (gm1 (i := 1) (by decide +kernel) rfl), (gm2 (i := 90) rfl rfl)⟩, (gdec (by decide +kernel) (by decide +kernel) (by decide +kernel))⟩
theorem k_X4_isIn : gKS yX4_isIn cX4_isIn 3 (some .boolean) 2 := ⟨⟨(gm1 (i := 233) (by decide +kernel) rfl), (gm1 (i := 1) (by decide +kernel) rfl), (gm1 (i := 234) rfl rfl)⟩, (gdec (by decide +kernel) (by decide +kernel) (by decide +kernel))⟩
theorem k_X4_isOdd : gKS yX4_isOdd cX4_isOdd 2 (some .boolean) 1 := ⟨⟨(gm2 (i := 21) (by decide +kernel) rfl), (gm1 (i := 1) (by decide +kernel) rfl), (gm2 (i := 22) rfl rfl)⟩, (gdec (by decide +kernel) (by decide +kernel) (by decide +kernel))⟩
theorem k_X4_rowCells : gKS yX4_rowCells cX4_rowCells 1 (some .long) 1 := ⟨⟨(gm2 (i := 6) (by decide +kernel) rfl), (gm1 (i := 1) (by decide +kernel) rfl), (gm2 (i := 7) rfl rfl)⟩, (gdec (by decide +kernel) (by decide +kernel) (by decide +kernel))⟩
theorem k_X4_columnCells : gKS yX4_columnCells cX4_columnCells 1 (some .long) 1 := ⟨⟨(gm2 (i := 25) (by decide +kernel) rfl), (gm1 (i := 1) (by decide +kernel) rfl), (gm2 (i := 26) rfl rfl)⟩, (gdec (by decide +kernel) (by decide +kernel) (by decide +kernel))⟩
theorem k_X4_rowValue : gKS yX4_rowValue cX4_rowValue 8 (some .int) 3 := ⟨⟨(gm3 (i := 42) (by decide +kernel) rfl), (gm1 (i := 1) (by decide +kernel) rfl), (gm3 (i := 43) rfl rfl)⟩, (gdec (by decide +kernel) (by decide +kernel) (by decide +kernel))⟩
theorem k_X4_untoldWithout : gKV RX4 yX4_untoldWithout cX4_untoldWithout 5 (some .int) 2 := ⟨⟨(gm1 (i := 226) (by decide +kernel) rfl), (gp1 (y := yX4_untoldWithout) (i := 3) (n := 6) (by decide +kernel) rfl), (gm1 (i := 1) (by decide +kernel) rfl), (gm1 (i := 227) rfl rfl)⟩, rfl, (gdec (by decide +kernel) (by decide +kernel) (by decide +kernel))⟩
theorem k_X4_worstCell : gKV RX4 yX4_worstCell cX4_worstCell 6 (some .int) 1 := ⟨⟨(gm1 (i := 222) (by decide +kernel) rfl), (gp1 (y := yX4_worstCell) (i := 2) (n := 6) (by decide +kernel) rfl), (gm1 (i := 1) (by decide +kernel) rfl), (gm1 (i := 223) rfl rfl)⟩, rfl, (gdec (by decide +kernel) (by decide +kernel) (by decide +kernel))⟩
theorem k_J5_init_d00df : gKI yJ5_init_d00df cJ5_init_d00df 2 1 := ⟨⟨(gm1 (i := 102) (by decide +kernel) rfl), (gm1 (i := 6) (by decide +kernel) rfl), (gm1 (i := 103) rfl rfl)⟩, rfl, (gdec (by decide +kernel) (by decide +kernel) (by decide +kernel))⟩
theorem k_J6_bitCount_0f7a4 : gKS yJ6_bitCount_0f7a4 cJ6_bitCount_0f7a4 1 (some .int) 1 := ⟨⟨(gm3 (i := 32) (by decide +kernel) rfl), (gm1 (i := 17) (by decide +kernel) rfl), (gm3 (i := 33) rfl rfl)⟩, (gdec (by decide +kernel) (by decide +kernel) (by decide +kernel))⟩
theorem k_J13_bitCount_95d88 : gKS yJ13_bitCount_95d88 cJ13_bitCount_95d88 2 (some .int) 1 := ⟨⟨(gm2 (i := 15) (by decide +kernel) rfl), (gm1 (i := 14) (by decide +kernel) rfl), (gm2 (i := 16) rfl rfl)⟩, (gdec (by decide +kernel) (by decide +kernel) (by decide +kernel))⟩
theorem k_J4_init_da8c8 : gKI yJ4_init_da8c8 cJ4_init_da8c8 1 0 := ⟨⟨(gm1 (i := 99) (by decide +kernel) rfl), (gm1 (i := 7) (by decide +kernel) rfl), (gm1 (i := 100) rfl rfl)⟩, rfl, (gdec (by decide +kernel) (by decide +kernel) (by decide +kernel))⟩
theorem k_J2_newBytesFor_77867 : gKS yJ2_newBytesFor_77867 cJ2_newBytesFor_77867 1 (some (.array .byte)) 1 := ⟨⟨(gm1 (i := 108) (by decide +kernel) rfl), (gm1 (i := 9) (by decide +kernel) rfl), (gm1 (i := 109) rfl rfl)⟩, (gdec (by decide +kernel) (by decide +kernel) (by decide +kernel))⟩
theorem k_J2_newBytesLength_0f7a4 : gKS yJ2_newBytesLength_0f7a4 cJ2_newBytesLength_0f7a4 1 (some .int) 1 := ⟨⟨(gm1 (i := 111) (by decide +kernel) rfl), (gm1 (i := 9) (by decide +kernel) rfl), (gm1 (i := 112) rfl rfl)⟩, (gdec (by decide +kernel) (by decide +kernel) (by decide +kernel))⟩
theorem k_L_cell : gKS yL_cell cL_cell 2 (some .int) 2 := ⟨⟨(gm2 (i := 65) (by decide +kernel) rfl), (gm1 (i := 0) (by decide +kernel) rfl), (gm2 (i := 66) rfl rfl)⟩, (gdec (by decide +kernel) (by decide +kernel) (by decide +kernel))⟩
theorem k_L_up : gKS yL_up cL_up 2 (some .int) 2 := ⟨⟨(gm2 (i := 69) (by decide +kernel) rfl), (gm1 (i := 0) (by decide +kernel) rfl), (gm2 (i := 70) rfl rfl)⟩, (gdec (by decide +kernel) (by decide +kernel) (by decide +kernel))⟩
theorem k_L_kinds : gKS yL_kinds cL_kinds 4 (some .long) 1 := ⟨⟨(gm2 (i := 73) (by decide +kernel) rfl), (gm1 (i := 0) (by decide +kernel) rfl), (gm2 (i := 74) rfl rfl)⟩, (gdec (by decide +kernel) (by decide +kernel) (by decide +kernel))⟩
theorem k_L_isBlank : gKS yL_isBlank cL_isBlank 5 (some .boolean) 3 := ⟨⟨(gm2 (i := 176) (by decide +kernel) rfl), (gm1 (i := 0) (by decide +kernel) rfl), (gm2 (i := 177) rfl rfl)⟩, (gdec (by decide +kernel) (by decide +kernel) (by decide +kernel))⟩
theorem k_L_canClose : gKS yL_canClose cL_canClose 4 (some .boolean) 2 := ⟨⟨(gm2 (i := 173) (by decide +kernel) rfl), (gm1 (i := 0) (by decide +kernel) rfl), (gm2 (i := 174) rfl rfl)⟩, (gdec (by decide +kernel) (by decide +kernel) (by decide +kernel))⟩
theorem k_L_acts : gKS yL_acts cL_acts 19 (some .boolean) 3 := ⟨⟨(gm2 (i := 101) (by decide +kernel) rfl), (gm1 (i := 0) (by decide +kernel) rfl), (gm2 (i := 102) rfl rfl)⟩, (gdec (by decide +kernel) (by decide +kernel) (by decide +kernel))⟩
theorem k_L_reversed : gKS yL_reversed cL_reversed 3 (some .int) 1 := ⟨⟨(gm3 (i := 108) (by decide +kernel) rfl), (gm1 (i := 0) (by decide +kernel) rfl), (gm3 (i := 109) rfl rfl)⟩, (gdec (by decide +kernel) (by decide +kernel) (by decide +kernel))⟩
theorem k_L_holds : gKS yL_holds cL_holds 11 (some .boolean) 2 := ⟨⟨(gm3 (i := 49) (by decide +kernel) rfl), (gm1 (i := 0) (by decide +kernel) rfl), (gm3 (i := 50) rfl rfl)⟩, (gdec (by decide +kernel) (by decide +kernel) (by decide +kernel))⟩
theorem k_L_isSeen : gKS yL_isSeen cL_isSeen 16 (some .boolean) 3 := ⟨⟨(gm3 (i := 87) (by decide +kernel) rfl), (gm1 (i := 0) (by decide +kernel) rfl), (gm3 (i := 88) rfl rfl)⟩, (gdec (by decide +kernel) (by decide +kernel) (by decide +kernel))⟩
theorem k_L_isAhead : gKS yL_isAhead cL_isAhead 12 (some .boolean) 3 := ⟨⟨(gm3 (i := 111) (by decide +kernel) rfl), (gm1 (i := 0) (by decide +kernel) rfl), (gm3 (i := 112) rfl rfl)⟩, (gdec (by decide +kernel) (by decide +kernel) (by decide +kernel))⟩
theorem in_X0 : ∀ w ∈ wsX00, w ∈ gTs := by
  show ∀ w ∈ [u_lay RX0 TX0 0, u_lay RX0 TX0 1, u_lay RX0 TX0 2], w ∈ gTs
  exact (List.forall_mem_cons.mpr ⟨(gm1 (i := 39) (by decide +kernel) rfl), (List.forall_mem_cons.mpr ⟨(gm1 (i := 41) (by decide +kernel) rfl), (List.forall_mem_cons.mpr ⟨(gm1 (i := 43) (by decide +kernel) rfl), (List.forall_mem_nil _)⟩)⟩)⟩)
theorem in_X1 : ∀ w ∈ wsX10, w ∈ gTs := by
  show ∀ w ∈ [u_lay RX1 TX1 0, u_lay RX1 TX1 1], w ∈ gTs
  exact (List.forall_mem_cons.mpr ⟨(gm1 (i := 72) (by decide +kernel) rfl), (List.forall_mem_cons.mpr ⟨(gm1 (i := 74) (by decide +kernel) rfl), (List.forall_mem_nil _)⟩)⟩)
theorem in_X2 : ∀ w ∈ wsX20, w ∈ gTs := by
  show ∀ w ∈ [u_lay RX2 TX2 0, u_lay RX2 TX2 1, u_lay RX2 TX2 2, u_lay RX2 TX2 3, u_lay RX2 TX2 4, u_lay RX2 TX2 5], w ∈ gTs
  exact (List.forall_mem_cons.mpr ⟨(gm1 (i := 83) (by decide +kernel) rfl), (List.forall_mem_cons.mpr ⟨(gm1 (i := 85) (by decide +kernel) rfl), (List.forall_mem_cons.mpr ⟨(gm1 (i := 87) (by decide +kernel) rfl), (List.forall_mem_cons.mpr ⟨(gm1 (i := 89) (by decide +kernel) rfl), (List.forall_mem_cons.mpr ⟨(gm1 (i := 91) (by decide +kernel) rfl), (List.forall_mem_cons.mpr ⟨(gm1 (i := 93) (by decide +kernel) rfl), (List.forall_mem_nil _)⟩)⟩)⟩)⟩)⟩)⟩)
theorem in_X3 : ∀ w ∈ wsX30, w ∈ gTs := by
  show ∀ w ∈ [u_lay RX3 TX3 0, u_lay RX3 TX3 1], w ∈ gTs
  exact (List.forall_mem_cons.mpr ⟨(gm1 (i := 56) (by decide +kernel) rfl), (List.forall_mem_cons.mpr ⟨(gm1 (i := 58) (by decide +kernel) rfl), (List.forall_mem_nil _)⟩)⟩)
theorem in_X4 : ∀ w ∈ wsX40, w ∈ gTs := by
  show ∀ w ∈ [u_lay RX4 TX4 0, u_lay RX4 TX4 1, u_lay RX4 TX4 2, u_lay RX4 TX4 3, u_lay RX4 TX4 4, u_lay RX4 TX4 5], w ∈ gTs
  exact (List.forall_mem_cons.mpr ⟨(gm1 (i := 132) (by decide +kernel) rfl), (List.forall_mem_cons.mpr ⟨(gm1 (i := 134) (by decide +kernel) rfl), (List.forall_mem_cons.mpr ⟨(gm1 (i := 136) (by decide +kernel) rfl), (List.forall_mem_cons.mpr ⟨(gm1 (i := 138) (by decide +kernel) rfl), (List.forall_mem_cons.mpr ⟨(gm1 (i := 140) (by decide +kernel) rfl), (List.forall_mem_cons.mpr ⟨(gm1 (i := 142) (by decide +kernel) rfl), (List.forall_mem_nil _)⟩)⟩)⟩)⟩)⟩)⟩)
theorem in_J4 : ∀ w ∈ wsJ40, w ∈ gTs := by
  show ∀ w ∈ [u_lay RJ4 TJ4 0, u_lay RJ4 TJ4 1, u_lay RJ4 TJ4 2, u_lay RJ4 TJ4 3], w ∈ gTs
  exact (List.forall_mem_cons.mpr ⟨(gm1 (i := 116) (by decide +kernel) rfl), (List.forall_mem_cons.mpr ⟨(gm1 (i := 118) (by decide +kernel) rfl), (List.forall_mem_cons.mpr ⟨(gm1 (i := 120) (by decide +kernel) rfl), (List.forall_mem_cons.mpr ⟨(gm1 (i := 122) (by decide +kernel) rfl), (List.forall_mem_nil _)⟩)⟩)⟩)⟩)
def gN : List Cond := [Cond.methodLinkNest RX4 15 yX0_init RX4, Cond.fieldLinkNest RX4 89 RX0 "front" "J" RX4, Cond.fieldLinkNest RX4 99 RX0 "back" "J" RX4, Cond.fieldLinkNest RX4 151 RX0 "lies" "I" RX4, Cond.methodLinkNest RX4 18 yX3_init RX4, Cond.fieldLinkNest RX4 114 RX3 "known" "J" RX4, Cond.fieldLinkNest RX4 111 RX3 "ones" "J" RX4, Cond.methodLinkNest RX4 28 yX1_init RX4, Cond.methodLinkNest RX1 17 yX0_init RX4, Cond.fieldLinkNest RX4 241 RX1 "kept" "I" RX4, Cond.methodLinkNest RX4 35 yX2_init RX4, Cond.castable "java/lang/IndexOutOfBoundsException" "java/lang/IndexOutOfBoundsException", Cond.declares ⟨"java/lang/RuntimeException", "<init>", "()V"⟩, Cond.declares ⟨"java/lang/RuntimeException", "<init>", "(Ljava/lang/String;)V"⟩, Cond.declares ⟨"java/lang/Exception", "<init>", "()V"⟩, Cond.declares ⟨"java/lang/Exception", "<init>", "(Ljava/lang/String;)V"⟩, Cond.declares ⟨"java/lang/Throwable", "<init>", "()V"⟩, Cond.declares ⟨"java/lang/Throwable", "<init>", "(Ljava/lang/String;)V"⟩, Cond.methodLinkNest RX4 180 yX0_sound RX4, Cond.methodLinkNest RX4 183 yX0_ones RX4, Cond.methodLinkNest RX4 265 yX3_findAll RX4, Cond.methodLinkNest RX3 18 yX4_rowCells RX4, Cond.methodLinkNest RX3 37 yX4_isOdd RX4, Cond.methodLinkNest RX3 26 yX4_columnCells RX4, Cond.methodLinkNest RX4 189 yX3_unknownCells RX4, Cond.methodLinkNest RX4 235 yX1_restores RX4, Cond.methodLinkNest RX1 25 yX0_become RX4, Cond.castable "java/lang/IllegalStateException" "java/lang/IllegalStateException", Cond.methodLinkNest RX4 143 yX0_kindAt RX4, Cond.methodLinkNest RX0 31 yX4_isIn RX4, Cond.methodLinkNest RX4 71 yX1_save RX4, Cond.methodLinkNest RX4 102 yX0_clear RX4, Cond.methodLinkNest RX4 176 yX0_cellsOfKind RX4, Cond.castable "java/lang/IllegalArgumentException" "java/lang/IllegalArgumentException", Cond.methodLinkNest RX4 119 yX0_blank RX4, Cond.methodLinkNest RX4 79 yX0_canClose RX4, Cond.methodLinkNest RX0 43 yX4_rowCells RX4, Cond.methodLinkNest RX4 85 yX0_punchCheckRow RX4, Cond.methodLinkNest RX0 60 yX4_columnCells RX4, Cond.methodLinkNest RX0 63 yX4_isOdd RX4, Cond.methodLinkNest RX0 35 yX4_cellNumber RX4, Cond.methodLinkNest RX4 155 yX0_showsHole RX4, Cond.methodLinkNest RX4 162 yX0_rawNumber RX4, Cond.methodLinkNest RX4 127 yX0_seenCell RX4, Cond.methodLinkNest RX4 130 yX0_showsBack RX4, Cond.methodLinkNest RX4 133 yX0_hasHole RX4, Cond.methodLinkNest RX4 139 yX0_setHole RX4, Cond.methodLinkNest RX4 62 yX0_canPunch RX4, Cond.methodLinkNest RX4 75 yX0_punchRow RX4, Cond.methodLinkNest RX4 192 yX3_disagreeingLines RX4, Cond.methodLinkNest RX4 197 yX3_disagreeingLine RX4, Cond.methodLinkNest RX4 168 yX3_bitAt RX4, Cond.methodLinkNest RX3 41 yX4_isIn RX4]
theorem gN_in : ∀ w ∈ gN, w ∈ lw_tbl := by
  show ∀ w ∈ [Cond.methodLinkNest RX4 15 yX0_init RX4, Cond.fieldLinkNest RX4 89 RX0 "front" "J" RX4, Cond.fieldLinkNest RX4 99 RX0 "back" "J" RX4, Cond.fieldLinkNest RX4 151 RX0 "lies" "I" RX4, Cond.methodLinkNest RX4 18 yX3_init RX4, Cond.fieldLinkNest RX4 114 RX3 "known" "J" RX4, Cond.fieldLinkNest RX4 111 RX3 "ones" "J" RX4, Cond.methodLinkNest RX4 28 yX1_init RX4, Cond.methodLinkNest RX1 17 yX0_init RX4, Cond.fieldLinkNest RX4 241 RX1 "kept" "I" RX4, Cond.methodLinkNest RX4 35 yX2_init RX4, Cond.castable "java/lang/IndexOutOfBoundsException" "java/lang/IndexOutOfBoundsException", Cond.declares ⟨"java/lang/RuntimeException", "<init>", "()V"⟩, Cond.declares ⟨"java/lang/RuntimeException", "<init>", "(Ljava/lang/String;)V"⟩, Cond.declares ⟨"java/lang/Exception", "<init>", "()V"⟩, Cond.declares ⟨"java/lang/Exception", "<init>", "(Ljava/lang/String;)V"⟩, Cond.declares ⟨"java/lang/Throwable", "<init>", "()V"⟩, Cond.declares ⟨"java/lang/Throwable", "<init>", "(Ljava/lang/String;)V"⟩, Cond.methodLinkNest RX4 180 yX0_sound RX4, Cond.methodLinkNest RX4 183 yX0_ones RX4, Cond.methodLinkNest RX4 265 yX3_findAll RX4, Cond.methodLinkNest RX3 18 yX4_rowCells RX4, Cond.methodLinkNest RX3 37 yX4_isOdd RX4, Cond.methodLinkNest RX3 26 yX4_columnCells RX4, Cond.methodLinkNest RX4 189 yX3_unknownCells RX4, Cond.methodLinkNest RX4 235 yX1_restores RX4, Cond.methodLinkNest RX1 25 yX0_become RX4, Cond.castable "java/lang/IllegalStateException" "java/lang/IllegalStateException", Cond.methodLinkNest RX4 143 yX0_kindAt RX4, Cond.methodLinkNest RX0 31 yX4_isIn RX4, Cond.methodLinkNest RX4 71 yX1_save RX4, Cond.methodLinkNest RX4 102 yX0_clear RX4, Cond.methodLinkNest RX4 176 yX0_cellsOfKind RX4, Cond.castable "java/lang/IllegalArgumentException" "java/lang/IllegalArgumentException", Cond.methodLinkNest RX4 119 yX0_blank RX4, Cond.methodLinkNest RX4 79 yX0_canClose RX4, Cond.methodLinkNest RX0 43 yX4_rowCells RX4, Cond.methodLinkNest RX4 85 yX0_punchCheckRow RX4, Cond.methodLinkNest RX0 60 yX4_columnCells RX4, Cond.methodLinkNest RX0 63 yX4_isOdd RX4, Cond.methodLinkNest RX0 35 yX4_cellNumber RX4, Cond.methodLinkNest RX4 155 yX0_showsHole RX4, Cond.methodLinkNest RX4 162 yX0_rawNumber RX4, Cond.methodLinkNest RX4 127 yX0_seenCell RX4, Cond.methodLinkNest RX4 130 yX0_showsBack RX4, Cond.methodLinkNest RX4 133 yX0_hasHole RX4, Cond.methodLinkNest RX4 139 yX0_setHole RX4, Cond.methodLinkNest RX4 62 yX0_canPunch RX4, Cond.methodLinkNest RX4 75 yX0_punchRow RX4, Cond.methodLinkNest RX4 192 yX3_disagreeingLines RX4, Cond.methodLinkNest RX4 197 yX3_disagreeingLine RX4, Cond.methodLinkNest RX4 168 yX3_bitAt RX4, Cond.methodLinkNest RX3 41 yX4_isIn RX4], w ∈ lw_tbl
  exact (List.forall_mem_cons.mpr ⟨gt1 (i := 29) (by decide +kernel), (List.forall_mem_cons.mpr ⟨gt1 (i := 34) (by decide +kernel), (List.forall_mem_cons.mpr ⟨gt1 (i := 36) (by decide +kernel), (List.forall_mem_cons.mpr ⟨gt1 (i := 38) (by decide +kernel), (List.forall_mem_cons.mpr ⟨gt1 (i := 48) (by decide +kernel), (List.forall_mem_cons.mpr ⟨gt1 (i := 53) (by decide +kernel), (List.forall_mem_cons.mpr ⟨gt1 (i := 55) (by decide +kernel), (List.forall_mem_cons.mpr ⟨gt1 (i := 63) (by decide +kernel), (List.forall_mem_cons.mpr ⟨gt1 (i := 68) (by decide +kernel), (List.forall_mem_cons.mpr ⟨gt1 (i := 71) (by decide +kernel), (List.forall_mem_cons.mpr ⟨gt1 (i := 79) (by decide +kernel), (List.forall_mem_cons.mpr ⟨gt1 (i := 155) (by decide +kernel), (List.forall_mem_cons.mpr ⟨gt1 (i := 156) (by decide +kernel), (List.forall_mem_cons.mpr ⟨gt1 (i := 157) (by decide +kernel), (List.forall_mem_cons.mpr ⟨gt1 (i := 158) (by decide +kernel), (List.forall_mem_cons.mpr ⟨gt1 (i := 159) (by decide +kernel), (List.forall_mem_cons.mpr ⟨gt1 (i := 160) (by decide +kernel), (List.forall_mem_cons.mpr ⟨gt1 (i := 161) (by decide +kernel), (List.forall_mem_cons.mpr ⟨gt1 (i := 228) (by decide +kernel), (List.forall_mem_cons.mpr ⟨gt1 (i := 236) (by decide +kernel), (List.forall_mem_cons.mpr ⟨gt2 (i := 1) (by decide +kernel), (List.forall_mem_cons.mpr ⟨gt2 (i := 5) (by decide +kernel), (List.forall_mem_cons.mpr ⟨gt2 (i := 20) (by decide +kernel), (List.forall_mem_cons.mpr ⟨gt2 (i := 24) (by decide +kernel), (List.forall_mem_cons.mpr ⟨gt2 (i := 28) (by decide +kernel), (List.forall_mem_cons.mpr ⟨gt2 (i := 36) (by decide +kernel), (List.forall_mem_cons.mpr ⟨gt2 (i := 40) (by decide +kernel), (List.forall_mem_cons.mpr ⟨gt2 (i := 46) (by decide +kernel), (List.forall_mem_cons.mpr ⟨gt2 (i := 91) (by decide +kernel), (List.forall_mem_cons.mpr ⟨gt2 (i := 95) (by decide +kernel), (List.forall_mem_cons.mpr ⟨gt2 (i := 107) (by decide +kernel), (List.forall_mem_cons.mpr ⟨gt2 (i := 115) (by decide +kernel), (List.forall_mem_cons.mpr ⟨gt2 (i := 124) (by decide +kernel), (List.forall_mem_cons.mpr ⟨gt2 (i := 147) (by decide +kernel), (List.forall_mem_cons.mpr ⟨gt2 (i := 161) (by decide +kernel), (List.forall_mem_cons.mpr ⟨gt2 (i := 182) (by decide +kernel), (List.forall_mem_cons.mpr ⟨gt2 (i := 186) (by decide +kernel), (List.forall_mem_cons.mpr ⟨gt2 (i := 189) (by decide +kernel), (List.forall_mem_cons.mpr ⟨gt2 (i := 193) (by decide +kernel), (List.forall_mem_cons.mpr ⟨gt2 (i := 194) (by decide +kernel), (List.forall_mem_cons.mpr ⟨gt2 (i := 199) (by decide +kernel), (List.forall_mem_cons.mpr ⟨gt2 (i := 214) (by decide +kernel), (List.forall_mem_cons.mpr ⟨gt2 (i := 234) (by decide +kernel), (List.forall_mem_cons.mpr ⟨gt3 (i := 3) (by decide +kernel), (List.forall_mem_cons.mpr ⟨gt3 (i := 4) (by decide +kernel), (List.forall_mem_cons.mpr ⟨gt3 (i := 5) (by decide +kernel), (List.forall_mem_cons.mpr ⟨gt3 (i := 7) (by decide +kernel), (List.forall_mem_cons.mpr ⟨gt3 (i := 22) (by decide +kernel), (List.forall_mem_cons.mpr ⟨gt3 (i := 27) (by decide +kernel), (List.forall_mem_cons.mpr ⟨gt3 (i := 55) (by decide +kernel), (List.forall_mem_cons.mpr ⟨gt3 (i := 68) (by decide +kernel), (List.forall_mem_cons.mpr ⟨gt3 (i := 76) (by decide +kernel), (List.forall_mem_cons.mpr ⟨gt3 (i := 80) (by decide +kernel), (List.forall_mem_nil _)⟩)⟩)⟩)⟩)⟩)⟩)⟩)⟩)⟩)⟩)⟩)⟩)⟩)⟩)⟩)⟩)⟩)⟩)⟩)⟩)⟩)⟩)⟩)⟩)⟩)⟩)⟩)⟩)⟩)⟩)⟩)⟩)⟩)⟩)⟩)⟩)⟩)⟩)⟩)⟩)⟩)⟩)⟩)⟩)⟩)⟩)⟩)⟩)⟩)⟩)⟩)⟩)⟩)
theorem nm_X4_15 : Cond.methodLinkNest RX4 15 yX0_init RX4 ∈ gN := List.mem_of_getElem? (i := 0) rfl
theorem nf_X4_89 : Cond.fieldLinkNest RX4 89 RX0 "front" "J" RX4 ∈ gN := List.mem_of_getElem? (i := 1) rfl
theorem nf_X4_99 : Cond.fieldLinkNest RX4 99 RX0 "back" "J" RX4 ∈ gN := List.mem_of_getElem? (i := 2) rfl
theorem nf_X4_151 : Cond.fieldLinkNest RX4 151 RX0 "lies" "I" RX4 ∈ gN := List.mem_of_getElem? (i := 3) rfl
theorem nm_X4_18 : Cond.methodLinkNest RX4 18 yX3_init RX4 ∈ gN := List.mem_of_getElem? (i := 4) rfl
theorem nf_X4_114 : Cond.fieldLinkNest RX4 114 RX3 "known" "J" RX4 ∈ gN := List.mem_of_getElem? (i := 5) rfl
theorem nf_X4_111 : Cond.fieldLinkNest RX4 111 RX3 "ones" "J" RX4 ∈ gN := List.mem_of_getElem? (i := 6) rfl
theorem nm_X4_28 : Cond.methodLinkNest RX4 28 yX1_init RX4 ∈ gN := List.mem_of_getElem? (i := 7) rfl
theorem nm_X1_17 : Cond.methodLinkNest RX1 17 yX0_init RX4 ∈ gN := List.mem_of_getElem? (i := 8) rfl
theorem nf_X4_241 : Cond.fieldLinkNest RX4 241 RX1 "kept" "I" RX4 ∈ gN := List.mem_of_getElem? (i := 9) rfl
theorem nm_X4_35 : Cond.methodLinkNest RX4 35 yX2_init RX4 ∈ gN := List.mem_of_getElem? (i := 10) rfl
theorem ca_11 : Cond.castable "java/lang/IndexOutOfBoundsException" "java/lang/IndexOutOfBoundsException" ∈ gN := List.mem_of_getElem? (i := 11) rfl
theorem nm_X4_180 : Cond.methodLinkNest RX4 180 yX0_sound RX4 ∈ gN := List.mem_of_getElem? (i := 18) rfl
theorem nm_X4_183 : Cond.methodLinkNest RX4 183 yX0_ones RX4 ∈ gN := List.mem_of_getElem? (i := 19) rfl
theorem nm_X4_265 : Cond.methodLinkNest RX4 265 yX3_findAll RX4 ∈ gN := List.mem_of_getElem? (i := 20) rfl
theorem nm_X3_18 : Cond.methodLinkNest RX3 18 yX4_rowCells RX4 ∈ gN := List.mem_of_getElem? (i := 21) rfl
theorem nm_X3_37 : Cond.methodLinkNest RX3 37 yX4_isOdd RX4 ∈ gN := List.mem_of_getElem? (i := 22) rfl
theorem nm_X3_26 : Cond.methodLinkNest RX3 26 yX4_columnCells RX4 ∈ gN := List.mem_of_getElem? (i := 23) rfl
theorem nm_X4_189 : Cond.methodLinkNest RX4 189 yX3_unknownCells RX4 ∈ gN := List.mem_of_getElem? (i := 24) rfl
theorem nm_X4_235 : Cond.methodLinkNest RX4 235 yX1_restores RX4 ∈ gN := List.mem_of_getElem? (i := 25) rfl
theorem nm_X1_25 : Cond.methodLinkNest RX1 25 yX0_become RX4 ∈ gN := List.mem_of_getElem? (i := 26) rfl
theorem ca_27 : Cond.castable "java/lang/IllegalStateException" "java/lang/IllegalStateException" ∈ gN := List.mem_of_getElem? (i := 27) rfl
theorem nm_X4_143 : Cond.methodLinkNest RX4 143 yX0_kindAt RX4 ∈ gN := List.mem_of_getElem? (i := 28) rfl
theorem nm_X0_31 : Cond.methodLinkNest RX0 31 yX4_isIn RX4 ∈ gN := List.mem_of_getElem? (i := 29) rfl
theorem nm_X4_71 : Cond.methodLinkNest RX4 71 yX1_save RX4 ∈ gN := List.mem_of_getElem? (i := 30) rfl
theorem nm_X4_102 : Cond.methodLinkNest RX4 102 yX0_clear RX4 ∈ gN := List.mem_of_getElem? (i := 31) rfl
theorem nm_X4_176 : Cond.methodLinkNest RX4 176 yX0_cellsOfKind RX4 ∈ gN := List.mem_of_getElem? (i := 32) rfl
theorem ca_33 : Cond.castable "java/lang/IllegalArgumentException" "java/lang/IllegalArgumentException" ∈ gN := List.mem_of_getElem? (i := 33) rfl
theorem nm_X4_119 : Cond.methodLinkNest RX4 119 yX0_blank RX4 ∈ gN := List.mem_of_getElem? (i := 34) rfl
theorem nm_X4_79 : Cond.methodLinkNest RX4 79 yX0_canClose RX4 ∈ gN := List.mem_of_getElem? (i := 35) rfl
theorem nm_X0_43 : Cond.methodLinkNest RX0 43 yX4_rowCells RX4 ∈ gN := List.mem_of_getElem? (i := 36) rfl
theorem nm_X4_85 : Cond.methodLinkNest RX4 85 yX0_punchCheckRow RX4 ∈ gN := List.mem_of_getElem? (i := 37) rfl
theorem nm_X0_60 : Cond.methodLinkNest RX0 60 yX4_columnCells RX4 ∈ gN := List.mem_of_getElem? (i := 38) rfl
theorem nm_X0_63 : Cond.methodLinkNest RX0 63 yX4_isOdd RX4 ∈ gN := List.mem_of_getElem? (i := 39) rfl
theorem nm_X0_35 : Cond.methodLinkNest RX0 35 yX4_cellNumber RX4 ∈ gN := List.mem_of_getElem? (i := 40) rfl
theorem nm_X4_155 : Cond.methodLinkNest RX4 155 yX0_showsHole RX4 ∈ gN := List.mem_of_getElem? (i := 41) rfl
theorem nm_X4_162 : Cond.methodLinkNest RX4 162 yX0_rawNumber RX4 ∈ gN := List.mem_of_getElem? (i := 42) rfl
theorem nm_X4_127 : Cond.methodLinkNest RX4 127 yX0_seenCell RX4 ∈ gN := List.mem_of_getElem? (i := 43) rfl
theorem nm_X4_130 : Cond.methodLinkNest RX4 130 yX0_showsBack RX4 ∈ gN := List.mem_of_getElem? (i := 44) rfl
theorem nm_X4_133 : Cond.methodLinkNest RX4 133 yX0_hasHole RX4 ∈ gN := List.mem_of_getElem? (i := 45) rfl
theorem nm_X4_139 : Cond.methodLinkNest RX4 139 yX0_setHole RX4 ∈ gN := List.mem_of_getElem? (i := 46) rfl
theorem nm_X4_62 : Cond.methodLinkNest RX4 62 yX0_canPunch RX4 ∈ gN := List.mem_of_getElem? (i := 47) rfl
theorem nm_X4_75 : Cond.methodLinkNest RX4 75 yX0_punchRow RX4 ∈ gN := List.mem_of_getElem? (i := 48) rfl
theorem nm_X4_192 : Cond.methodLinkNest RX4 192 yX3_disagreeingLines RX4 ∈ gN := List.mem_of_getElem? (i := 49) rfl
theorem nm_X4_197 : Cond.methodLinkNest RX4 197 yX3_disagreeingLine RX4 ∈ gN := List.mem_of_getElem? (i := 50) rfl
theorem nm_X4_168 : Cond.methodLinkNest RX4 168 yX3_bitAt RX4 ∈ gN := List.mem_of_getElem? (i := 51) rfl
theorem nm_X3_41 : Cond.methodLinkNest RX3 41 yX4_isIn RX4 ∈ gN := List.mem_of_getElem? (i := 52) rfl
def gKU (own : String) (y : MethodName) (cc : ByteArray) (maxL : Nat) (ret : Option FieldType) (n : Nat) : Prop := (Cond.instanceMethod y ∈ gTs ∧ Cond.sameMethod y.cls y.cls y.name y.desc ∈ gTs ∧ Cond.superclass own y.cls ∈ gTs ∧ Cond.initialized y.cls ∈ gTs ∧ Cond.code y cc maxL ret ∈ gTs) ∧ (y.name ≠ "<init>" ∧ (parseMethodDescriptor y.desc).map (fun d => d.parameters.length) = some n)
def gKW (C : String) (y : MethodName) (cc : ByteArray) (maxL : Nat) (ret : Option FieldType) (n : Nat) : Prop := (Cond.instanceMethod y ∈ gTs ∧ Cond.selects C y y ∈ gTs ∧ Cond.initialized y.cls ∈ gTs ∧ Cond.code y cc maxL ret ∈ gTs) ∧ (y.cls ≠ "java/lang/invoke/MethodHandle" ∧ y.cls ≠ "java/lang/invoke/VarHandle" ∧ (parseMethodDescriptor y.desc).map (fun d => d.parameters.length) = some n)
def gKP (y : MethodName) (cc : ByteArray) (maxL : Nat) (ret : Option FieldType) (n : Nat) : Prop := (Cond.instanceMethod y ∈ gTs ∧ Cond.privateMethod y ∈ gN ∧ Cond.initialized y.cls ∈ gTs ∧ Cond.code y cc maxL ret ∈ gTs) ∧ (y.cls ≠ "java/lang/invoke/MethodHandle" ∧ y.cls ≠ "java/lang/invoke/VarHandle" ∧ (parseMethodDescriptor y.desc).map (fun d => d.parameters.length) = some n)
theorem gdeu {y : MethodName} {n : Nat} (h : decide (y.name ≠ "<init>") = true) (h3 : decide ((parseMethodDescriptor y.desc).map (fun d => d.parameters.length) = some n) = true) : y.name ≠ "<init>" ∧ (parseMethodDescriptor y.desc).map (fun d => d.parameters.length) = some n := ⟨of_decide_eq_true h, of_decide_eq_true h3⟩
def gSR : List (Nat × String) := [(263, "there is no such card"), (239, "no state is saved"), (269, "rows and columns are 0 to 7"), (173, "a kind is 0 to 3"), (105, "a card is not copied onto itself"), (149, "a view is 0 to 3"), (83, "the card can't be closed"), (147, "there is no hole"), (137, "there is a hole"), (271, "rows with values are 0 to 6"), (57, "a value is 0 to 127"), (68, "a cell of the row is not blank"), (195, "the index is negative")]
theorem sr_263 : (263, "there is no such card") ∈ gSR := List.mem_of_getElem? (i := 0) rfl
theorem sr_239 : (239, "no state is saved") ∈ gSR := List.mem_of_getElem? (i := 1) rfl
theorem sr_269 : (269, "rows and columns are 0 to 7") ∈ gSR := List.mem_of_getElem? (i := 2) rfl
theorem sr_173 : (173, "a kind is 0 to 3") ∈ gSR := List.mem_of_getElem? (i := 3) rfl
theorem sr_105 : (105, "a card is not copied onto itself") ∈ gSR := List.mem_of_getElem? (i := 4) rfl
theorem sr_149 : (149, "a view is 0 to 3") ∈ gSR := List.mem_of_getElem? (i := 5) rfl
theorem sr_83 : (83, "the card can't be closed") ∈ gSR := List.mem_of_getElem? (i := 6) rfl
theorem sr_147 : (147, "there is no hole") ∈ gSR := List.mem_of_getElem? (i := 7) rfl
theorem sr_137 : (137, "there is a hole") ∈ gSR := List.mem_of_getElem? (i := 8) rfl
theorem sr_271 : (271, "rows with values are 0 to 6") ∈ gSR := List.mem_of_getElem? (i := 9) rfl
theorem sr_57 : (57, "a value is 0 to 127") ∈ gSR := List.mem_of_getElem? (i := 10) rfl
theorem sr_68 : (68, "a cell of the row is not blank") ∈ gSR := List.mem_of_getElem? (i := 11) rfl
theorem sr_195 : (195, "the index is negative") ∈ gSR := List.mem_of_getElem? (i := 12) rfl
def gNc : List (String × String) := []
