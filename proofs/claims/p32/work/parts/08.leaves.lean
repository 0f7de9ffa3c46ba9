set_option maxHeartbeats 4000000 in
set_option maxRecDepth 100000 in
theorem cn_J13_bitCount_95d88 (l : Launch) (D : va_G) (cy : Nat → ClassId) (W1 : va_W) (n : Nat) (h1 : n < 2 ^ 64) : GE l D (gts cy) yJ13_bitCount_95d88 cJ13_bitCount_95d88 2 (some .int) 0 0 0 [.long (lN n)] (W1) (gF (some (.int (nI (bcN n)))) (W1)) := by
  refine g_intro (by decide +kernel) (lv := [(0, .long (lN n))]) rfl (Nat.le_of_ble_eq_true rfl) ?_
  intro p e s m below meth c C0 G ls hl
  have hx := C0.1
  have hb := C0.2.1
  have hown := C0.2.2.2.2.2.1
  have hts := C0.2.2.2.2.2.2.1
  refine lv_lload_n hx hb dJ13_bitCount_95d88_0 rfl (lv_at hl 0 rfl) ?_
  refine lv_lload_n hx hb dJ13_bitCount_95d88_1 rfl (lv_at hl 0 rfl) ?_
  refine lv_iconst (v := 1) hx hb dJ13_bitCount_95d88_2 (by decide) ?_
  refine lv_lushr hx hb dJ13_bitCount_95d88_3 rfl ?_
  refine g_topl (x' := lN (n / 2 ^ 1)) (wb_shr h1 (by decide)) ?_
  refine lv_ldc2 (v := (6148914691236517205)) hx hb hown (hts _ kl_J13_314) dJ13_bitCount_95d88_4 ?_
  refine lv_land hx hb dJ13_bitCount_95d88_7 ?_
  refine g_topl (x' := lN (n / 2 ^ 1 &&& bM1)) (wb_and (b := bM1) (bc_dlt h1) (by decide)) ?_
  refine lv_lsub hx hb dJ13_bitCount_95d88_8 ?_
  refine g_topl (x' := lN (bcA n)) (lN_sub (Nat.le_trans Nat.and_le_left (Nat.div_le_self _ _))) ?_
  refine lv_lstore_n (lv' := [(0, .long (lN (bcA n)))]) hx hb dJ13_bitCount_95d88_9 rfl hl (by decide) rfl (fun ls hl => ?_)
  refine lv_lload_n hx hb dJ13_bitCount_95d88_10 rfl (lv_at hl 0 rfl) ?_
  refine lv_ldc2 (v := (3689348814741910323)) hx hb hown (hts _ kl_J13_316) dJ13_bitCount_95d88_11 ?_
  refine lv_land hx hb dJ13_bitCount_95d88_14 ?_
  refine g_topl (x' := lN (bcA n &&& bM2)) (wb_and (b := bM2) (bc_hA h1) (by decide)) ?_
  refine lv_lload_n hx hb dJ13_bitCount_95d88_15 rfl (lv_at hl 0 rfl) ?_
  refine lv_iconst (v := 2) hx hb dJ13_bitCount_95d88_16 (by decide) ?_
  refine lv_lushr hx hb dJ13_bitCount_95d88_17 rfl ?_
  refine g_topl (x' := lN (bcA n / 2 ^ 2)) (wb_shr (bc_hA h1) (by decide)) ?_
  refine lv_ldc2 (v := (3689348814741910323)) hx hb hown (hts _ kl_J13_316) dJ13_bitCount_95d88_18 ?_
  refine lv_land hx hb dJ13_bitCount_95d88_21 ?_
  refine g_topl (x' := lN (bcA n / 2 ^ 2 &&& bM2)) (wb_and (b := bM2) (bc_dlt (bc_hA h1)) (by decide)) ?_
  refine lv_ladd hx hb dJ13_bitCount_95d88_22 ?_
  refine g_topl (x' := lN (bcB (bcA n))) (lN_add _ _) ?_
  refine lv_lstore_n (lv' := [(0, .long (lN (bcB (bcA n))))]) hx hb dJ13_bitCount_95d88_23 rfl hl (by decide) rfl (fun ls hl => ?_)
  refine lv_lload_n hx hb dJ13_bitCount_95d88_24 rfl (lv_at hl 0 rfl) ?_
  refine lv_lload_n hx hb dJ13_bitCount_95d88_25 rfl (lv_at hl 0 rfl) ?_
  refine lv_iconst (v := 4) hx hb dJ13_bitCount_95d88_26 (by decide) ?_
  refine lv_lushr hx hb dJ13_bitCount_95d88_27 rfl ?_
  refine g_topl (x' := lN (bcB (bcA n) / 2 ^ 4)) (wb_shr (bc_hB _) (by decide)) ?_
  refine lv_ladd hx hb dJ13_bitCount_95d88_28 ?_
  refine g_topl (x' := lN (bcB (bcA n) + bcB (bcA n) / 2 ^ 4)) (lN_add _ _) ?_
  refine lv_ldc2 (v := (1085102592571150095)) hx hb hown (hts _ kl_J13_318) dJ13_bitCount_95d88_29 ?_
  refine lv_land hx hb dJ13_bitCount_95d88_32 ?_
  refine g_topl (x' := lN (bcC (bcB (bcA n)))) (wb_and (b := bM3) (bc_hB4 _) (by decide)) ?_
  refine lv_lstore_n (lv' := [(0, .long (lN (bcC (bcB (bcA n)))))]) hx hb dJ13_bitCount_95d88_33 rfl hl (by decide) rfl (fun ls hl => ?_)
  refine lv_lload_n hx hb dJ13_bitCount_95d88_34 rfl (lv_at hl 0 rfl) ?_
  refine lv_lload_n hx hb dJ13_bitCount_95d88_35 rfl (lv_at hl 0 rfl) ?_
  refine lv_bipush (v := 8) hx hb dJ13_bitCount_95d88_36 (by decide) ?_
  refine lv_lushr hx hb dJ13_bitCount_95d88_38 rfl ?_
  refine g_topl (x' := lN (bcC (bcB (bcA n)) / 2 ^ 8)) (wb_shr (bc_hC _) (by decide)) ?_
  refine lv_ladd hx hb dJ13_bitCount_95d88_39 ?_
  refine g_topl (x' := lN (bcD (bcC (bcB (bcA n))) 8)) (lN_add _ _) ?_
  refine lv_lstore_n (lv' := [(0, .long (lN (bcD (bcC (bcB (bcA n))) 8)))]) hx hb dJ13_bitCount_95d88_40 rfl hl (by decide) rfl (fun ls hl => ?_)
  refine lv_lload_n hx hb dJ13_bitCount_95d88_41 rfl (lv_at hl 0 rfl) ?_
  refine lv_lload_n hx hb dJ13_bitCount_95d88_42 rfl (lv_at hl 0 rfl) ?_
  refine lv_bipush (v := 16) hx hb dJ13_bitCount_95d88_43 (by decide) ?_
  refine lv_lushr hx hb dJ13_bitCount_95d88_45 rfl ?_
  refine g_topl (x' := lN (bcD (bcC (bcB (bcA n))) 8 / 2 ^ 16)) (wb_shr (bc_hD8 _) (by decide)) ?_
  refine lv_ladd hx hb dJ13_bitCount_95d88_46 ?_
  refine g_topl (x' := lN (bcD (bcD (bcC (bcB (bcA n))) 8) 16)) (lN_add _ _) ?_
  refine lv_lstore_n (lv' := [(0, .long (lN (bcD (bcD (bcC (bcB (bcA n))) 8) 16)))]) hx hb dJ13_bitCount_95d88_47 rfl hl (by decide) rfl (fun ls hl => ?_)
  refine lv_lload_n hx hb dJ13_bitCount_95d88_48 rfl (lv_at hl 0 rfl) ?_
  refine lv_lload_n hx hb dJ13_bitCount_95d88_49 rfl (lv_at hl 0 rfl) ?_
  refine lv_bipush (v := 32) hx hb dJ13_bitCount_95d88_50 (by decide) ?_
  refine lv_lushr hx hb dJ13_bitCount_95d88_52 rfl ?_
  refine g_topl (x' := lN (bcD (bcD (bcC (bcB (bcA n))) 8) 16 / 2 ^ 32)) (wb_shr (bc_hD16 _) (by decide)) ?_
  refine lv_ladd hx hb dJ13_bitCount_95d88_53 ?_
  refine g_topl (x' := lN (bcD (bcD (bcD (bcC (bcB (bcA n))) 8) 16) 32)) (lN_add _ _) ?_
  refine lv_lstore_n (lv' := [(0, .long (lN (bcD (bcD (bcD (bcC (bcB (bcA n))) 8) 16) 32)))]) hx hb dJ13_bitCount_95d88_54 rfl hl (by decide) rfl (fun ls hl => ?_)
  refine lv_lload_n hx hb dJ13_bitCount_95d88_55 rfl (lv_at hl 0 rfl) ?_
  refine lv_l2i hx hb dJ13_bitCount_95d88_56 rfl ?_
  refine lv_bipush (v := 127) hx hb dJ13_bitCount_95d88_57 (by decide) ?_
  refine lv_iand hx hb dJ13_bitCount_95d88_59 ?_
  refine g_topi (x' := nI (bcN n)) (lN32 _) ?_
  exact g_iret C0 G ⟨by rfl, by first | rfl | (exfalso; omega) | (simp only [Bool.false_eq_true, ↓reduceIte, eq_self, decide_true, decide_false, not_true_eq_false, not_false_eq_true, Bool.true_and, Bool.false_and, Bool.and_true, Bool.and_false]; done) | (simp []; done) | (simp []; rfl) | (simp []; omega)⟩ dJ13_bitCount_95d88_60
theorem c_J13_bitCount_95d88 (l : Launch) (D : va_G) (cy : Nat → ClassId) (W1 : va_W) (w : Int64) : GE l D (gts cy) yJ13_bitCount_95d88 cJ13_bitCount_95d88 2 (some .int) 0 0 0 [.long w] W1 (gF (some (.int (nI (pc w)))) W1) := by
  obtain ⟨n, hn, rfl⟩ := wb_of w
  rw [← bc_pc hn]
  exact cn_J13_bitCount_95d88 l D cy W1 n hn
set_option maxHeartbeats 4000000 in
set_option maxRecDepth 100000 in
theorem c_J6_bitCount_0f7a4 (l : Launch) (D : va_G) (cy : Nat → ClassId) (W1 : va_W) (k : Nat) (h1 : k < 128) : GE l D (gts cy) yJ6_bitCount_0f7a4 cJ6_bitCount_0f7a4 1 (some .int) 0 0 0 [.int (nI k)] (W1) (gF (some (.int (nI (pc7 k)))) (W1)) := by
  refine g_intro (by decide +kernel) (lv := [(0, .int (nI k))]) rfl (Nat.le_of_ble_eq_true rfl) ?_
  intro p e s m below meth c C0 G ls hl
  have hx := C0.1
  have hb := C0.2.1
  have hown := C0.2.2.2.2.2.1
  have hts := C0.2.2.2.2.2.2.1
  refine lv_iload_n hx hb dJ6_bitCount_0f7a4_0 rfl (lv_at hl 0 rfl) ?_
  refine lv_iload_n hx hb dJ6_bitCount_0f7a4_1 rfl (lv_at hl 0 rfl) ?_
  refine lv_iconst (v := 1) hx hb dJ6_bitCount_0f7a4_2 (by decide) ?_
  refine lv_iushr hx hb dJ6_bitCount_0f7a4_3 rfl ?_
  refine lv_ldcw (v := (1431655765)) hx hb hown (hts _ ki_J6_265) dJ6_bitCount_0f7a4_4 ?_
  refine lv_iand hx hb dJ6_bitCount_0f7a4_7 ?_
  refine lv_isub hx hb dJ6_bitCount_0f7a4_8 ?_
  refine g_topi (x' := bi1 (nI k)) rfl ?_
  refine lv_istore_n (lv' := [(0, .int (bi1 (nI k)))]) hx hb dJ6_bitCount_0f7a4_9 rfl hl (by decide) rfl (fun ls hl => ?_)
  refine lv_iload_n hx hb dJ6_bitCount_0f7a4_10 rfl (lv_at hl 0 rfl) ?_
  refine lv_ldcw (v := (858993459)) hx hb hown (hts _ ki_J6_266) dJ6_bitCount_0f7a4_11 ?_
  refine lv_iand hx hb dJ6_bitCount_0f7a4_14 ?_
  refine lv_iload_n hx hb dJ6_bitCount_0f7a4_15 rfl (lv_at hl 0 rfl) ?_
  refine lv_iconst (v := 2) hx hb dJ6_bitCount_0f7a4_16 (by decide) ?_
  refine lv_iushr hx hb dJ6_bitCount_0f7a4_17 rfl ?_
  refine lv_ldcw (v := (858993459)) hx hb hown (hts _ ki_J6_266) dJ6_bitCount_0f7a4_18 ?_
  refine lv_iand hx hb dJ6_bitCount_0f7a4_21 ?_
  refine lv_iadd hx hb dJ6_bitCount_0f7a4_22 ?_
  refine g_topi (x' := bi2 (bi1 (nI k))) rfl ?_
  refine lv_istore_n (lv' := [(0, .int (bi2 (bi1 (nI k))))]) hx hb dJ6_bitCount_0f7a4_23 rfl hl (by decide) rfl (fun ls hl => ?_)
  refine lv_iload_n hx hb dJ6_bitCount_0f7a4_24 rfl (lv_at hl 0 rfl) ?_
  refine lv_iload_n hx hb dJ6_bitCount_0f7a4_25 rfl (lv_at hl 0 rfl) ?_
  refine lv_iconst (v := 4) hx hb dJ6_bitCount_0f7a4_26 (by decide) ?_
  refine lv_iushr hx hb dJ6_bitCount_0f7a4_27 rfl ?_
  refine lv_iadd hx hb dJ6_bitCount_0f7a4_28 ?_
  refine lv_ldcw (v := (252645135)) hx hb hown (hts _ ki_J6_267) dJ6_bitCount_0f7a4_29 ?_
  refine lv_iand hx hb dJ6_bitCount_0f7a4_32 ?_
  refine g_topi (x' := bi3 (bi2 (bi1 (nI k)))) rfl ?_
  refine lv_istore_n (lv' := [(0, .int (bi3 (bi2 (bi1 (nI k)))))]) hx hb dJ6_bitCount_0f7a4_33 rfl hl (by decide) rfl (fun ls hl => ?_)
  refine lv_iload_n hx hb dJ6_bitCount_0f7a4_34 rfl (lv_at hl 0 rfl) ?_
  refine lv_iload_n hx hb dJ6_bitCount_0f7a4_35 rfl (lv_at hl 0 rfl) ?_
  refine lv_bipush (v := 8) hx hb dJ6_bitCount_0f7a4_36 (by decide) ?_
  refine lv_iushr hx hb dJ6_bitCount_0f7a4_38 rfl ?_
  refine lv_iadd hx hb dJ6_bitCount_0f7a4_39 ?_
  refine g_topi (x' := bi4 (bi3 (bi2 (bi1 (nI k))))) rfl ?_
  refine lv_istore_n (lv' := [(0, .int (bi4 (bi3 (bi2 (bi1 (nI k))))))]) hx hb dJ6_bitCount_0f7a4_40 rfl hl (by decide) rfl (fun ls hl => ?_)
  refine lv_iload_n hx hb dJ6_bitCount_0f7a4_41 rfl (lv_at hl 0 rfl) ?_
  refine lv_iload_n hx hb dJ6_bitCount_0f7a4_42 rfl (lv_at hl 0 rfl) ?_
  refine lv_bipush (v := 16) hx hb dJ6_bitCount_0f7a4_43 (by decide) ?_
  refine lv_iushr hx hb dJ6_bitCount_0f7a4_45 rfl ?_
  refine lv_iadd hx hb dJ6_bitCount_0f7a4_46 ?_
  refine g_topi (x' := bi5 (bi4 (bi3 (bi2 (bi1 (nI k)))))) rfl ?_
  refine lv_istore_n (lv' := [(0, .int (bi5 (bi4 (bi3 (bi2 (bi1 (nI k)))))))]) hx hb dJ6_bitCount_0f7a4_47 rfl hl (by decide) rfl (fun ls hl => ?_)
  refine lv_iload_n hx hb dJ6_bitCount_0f7a4_48 rfl (lv_at hl 0 rfl) ?_
  refine lv_bipush (v := 63) hx hb dJ6_bitCount_0f7a4_49 (by decide) ?_
  refine lv_iand hx hb dJ6_bitCount_0f7a4_51 ?_
  refine g_topi (x' := nI (pc7 k)) (bi_c k h1) ?_
  exact g_iret C0 G ⟨by rfl, by first | rfl | (exfalso; omega) | (simp only [Bool.false_eq_true, ↓reduceIte, eq_self, decide_true, decide_false, not_true_eq_false, not_false_eq_true, Bool.true_and, Bool.false_and, Bool.and_true, Bool.and_false]; done) | (simp []; done) | (simp []; rfl) | (simp []; omega)⟩ dJ6_bitCount_0f7a4_52
set_option maxHeartbeats 4000000 in
set_option maxRecDepth 100000 in
theorem c_X4_cellNumber (l : Launch) (D : va_G) (cy : Nat → ClassId) (W1 : va_W) (row : Nat) (col : Nat)  : GE l D (gts cy) yX4_cellNumber cX4_cellNumber 2 (some .int) 0 0 0 [.int (nI row), .int (nI col)] (W1) (gF (some (.int (nI (8 * row + col)))) (W1)) := by
  refine g_intro (by decide +kernel) (lv := [(0, .int (nI row)), (1, .int (nI col))]) rfl (Nat.le_of_ble_eq_true rfl) ?_
  intro p e s m below meth c C0 G ls hl
  have hx := C0.1
  have hb := C0.2.1
  have hown := C0.2.2.2.2.2.1
  have hts := C0.2.2.2.2.2.2.1
  refine lv_bipush (v := 8) hx hb dX4_cellNumber_0 (by decide) ?_
  refine lv_iload_n hx hb dX4_cellNumber_2 rfl (lv_at hl 0 rfl) ?_
  refine lv_imul hx hb dX4_cellNumber_3 ?_
  refine g_topi (x' := nI (8 * row)) (pk_mul 8 row) ?_
  refine lv_iload_n hx hb dX4_cellNumber_4 rfl (lv_at hl 1 rfl) ?_
  refine lv_iadd hx hb dX4_cellNumber_5 ?_
  refine g_topi (x' := nI ((8 * row) + col)) (nI_add (8 * row) col) ?_
  exact g_iret C0 G ⟨by first | rfl | (exfalso; omega) | (simp only [Bool.false_eq_true, ↓reduceIte, eq_self, decide_true, decide_false, not_true_eq_false, not_false_eq_true, Bool.true_and, Bool.false_and, Bool.and_true, Bool.and_false]; done) | (simp []; done) | (simp []; rfl) | (simp []; omega), by first | rfl | (exfalso; omega) | (simp only [Bool.false_eq_true, ↓reduceIte, eq_self, decide_true, decide_false, not_true_eq_false, not_false_eq_true, Bool.true_and, Bool.false_and, Bool.and_true, Bool.and_false]; done) | (simp []; done) | (simp []; rfl) | (simp []; omega)⟩ dX4_cellNumber_6

set_option maxHeartbeats 4000000 in
set_option maxRecDepth 100000 in
theorem c_X4_isIn (l : Launch) (D : va_G) (cy : Nat → ClassId) (W1 : va_W) (w : Int64) (k : Nat) (h1 : k < 64) : GE l D (gts cy) yX4_isIn cX4_isIn 3 (some .boolean) 0 0 0 [.long w, .int (nI k)] (W1) (gF (some (.int (bI (tb w k)))) (W1)) := by
  refine g_intro (by decide +kernel) (lv := [(0, .long w), (2, .int (nI k))]) rfl (Nat.le_of_ble_eq_true rfl) ?_
  intro p e s m below meth c C0 G ls hl
  have hx := C0.1
  have hb := C0.2.1
  have hown := C0.2.2.2.2.2.1
  have hts := C0.2.2.2.2.2.2.1
  refine lv_lload_n hx hb dX4_isIn_0 rfl (lv_at hl 0 rfl) ?_
  refine lv_iload_n hx hb dX4_isIn_1 rfl (lv_at hl 1 rfl) ?_
  refine lv_lushr hx hb dX4_isIn_2 rfl ?_
  refine lv_lconst (v := 1) hx hb dX4_isIn_3 (by decide) ?_
  refine lv_land hx hb dX4_isIn_4 ?_
  refine lv_lconst (v := 0) hx hb dX4_isIn_5 (by decide) ?_
  refine W.lcmp hx hb dX4_isIn_6 ?_
  refine lv_if_eq (tgt := 14) hx hb dX4_isIn_7 (by decide) (fun c_7 => ?_) (fun c_7 => ?_)
  · skip
    have c_7 : (((w.toUInt64 >>> ((nI k).toInt64.toUInt64 &&& Int64.toUInt64 63)).toInt64) &&& (1 : Int64)) = (0 : Int64) := lgc_eq.mp c_7
    refine lv_iconst (v := 0) hx hb dX4_isIn_14 (by decide) ?_
    exact g_zret C0 G rfl ⟨by first | (rw [isIn_f h1 c_7]; rfl) | (rw [isIn_t h1 c_7]; rfl), by first | rfl | (exfalso; omega) | (simp only [c_7, Bool.false_eq_true, ↓reduceIte, eq_self, decide_true, decide_false, not_true_eq_false, not_false_eq_true, Bool.true_and, Bool.false_and, Bool.and_true, Bool.and_false]; done) | (simp [c_7]; done) | (simp [c_7]; rfl) | (simp [c_7]; omega)⟩ dX4_isIn_15
  · skip
    have c_7 : ¬ (((w.toUInt64 >>> ((nI k).toInt64.toUInt64 &&& Int64.toUInt64 63)).toInt64) &&& (1 : Int64)) = (0 : Int64) := fun h => c_7 (lgc_eq.mpr h)
    refine lv_iconst (v := 1) hx hb dX4_isIn_10 (by decide) ?_
    refine lv_goto (tgt := 15) hx hb dX4_isIn_11 (by decide) ?_
    exact g_zret C0 G rfl ⟨by first | (rw [isIn_f h1 c_7]; rfl) | (rw [isIn_t h1 c_7]; rfl), by first | rfl | (exfalso; omega) | (simp only [c_7, Bool.false_eq_true, ↓reduceIte, eq_self, decide_true, decide_false, not_true_eq_false, not_false_eq_true, Bool.true_and, Bool.false_and, Bool.and_true, Bool.and_false]; done) | (simp [c_7]; done) | (simp [c_7]; rfl) | (simp [c_7]; omega)⟩ dX4_isIn_15

set_option maxHeartbeats 4000000 in
set_option maxRecDepth 100000 in
theorem c_X4_isOdd (l : Launch) (D : va_G) (cy : Nat → ClassId) (W1 : va_W) (w : Int64)  : GE l D (gts cy) yX4_isOdd cX4_isOdd 2 (some .boolean) 1 0 0 [.long w] (W1) (gF (some (.int (bI (od w)))) (W1)) := by
  refine g_intro (by decide +kernel) (lv := [(0, .long w)]) rfl (Nat.le_of_ble_eq_true rfl) ?_
  intro p e s m below meth c C0 G ls hl
  have hx := C0.1
  have hb := C0.2.1
  have hown := C0.2.2.2.2.2.1
  have hts := C0.2.2.2.2.2.2.1
  refine lv_lload_n hx hb dX4_isOdd_0 rfl (lv_at hl 0 rfl) ?_
  refine g_callS (As := [.long w]) (rest := []) C0 G (c_J13_bitCount_95d88 l D cy (W1 := W1) (w := w) ) k_J13_bitCount_95d88 ml_X4_93 dX4_isOdd_1 rfl rfl hl.1 (Nat.le_of_ble_eq_true rfl) ⟨Nat.le_of_ble_eq_true rfl, Nat.le_of_ble_eq_true rfl⟩ ⟨Nat.le_of_ble_eq_true rfl, Nat.le_of_ble_eq_true rfl⟩ (fun r W2 H locs hp G => ?_)
  obtain ⟨rfl, hw⟩ := hp
  have G := g_wc hw G
  refine W.eq (g2 := F0 m 4 ls [.int (nI (pc w))]) rfl ?_
  refine lv_iconst (v := 1) hx hb dX4_isOdd_4 (by decide) ?_
  refine lv_iand hx hb dX4_isOdd_5 ?_
  refine g_topi (x' := nI (pc w % 2)) (and1 _) ?_
  refine lv_iconst (v := 1) hx hb dX4_isOdd_6 (by decide) ?_
  refine lv_icmp_ne (tgt := 14) hx hb dX4_isOdd_7 (by decide) (fun c_7 => ?_) (fun c_7 => ?_)
  · skip
    have c_7 : ¬ ((pc w % 2) = 1) := fun h => c_7 ((nI_eq (a := pc w % 2) (b := 1) (by omega) (by omega)).mpr h)
    refine lv_iconst (v := 0) hx hb dX4_isOdd_14 (by decide) ?_
    exact g_zret C0 G rfl ⟨by first | rfl | (exfalso; omega) | (simp only [od, bI, c_7, Bool.false_eq_true, ↓reduceIte, eq_self, decide_true, decide_false, not_true_eq_false, not_false_eq_true, Bool.true_and, Bool.false_and, Bool.and_true, Bool.and_false]; done) | (simp [od, bI, c_7]; done) | (simp [od, bI, c_7]; rfl) | (simp [od, bI, c_7]; omega), by first | rfl | (exfalso; omega) | (simp only [od, bI, c_7, Bool.false_eq_true, ↓reduceIte, eq_self, decide_true, decide_false, not_true_eq_false, not_false_eq_true, Bool.true_and, Bool.false_and, Bool.and_true, Bool.and_false]; done) | (simp [od, bI, c_7]; done) | (simp [od, bI, c_7]; rfl) | (simp [od, bI, c_7]; omega)⟩ dX4_isOdd_15
  · skip
    have c_7 : (pc w % 2) = 1 := (nI_eq (a := pc w % 2) (b := 1) (by omega) (by omega)).mp c_7
    refine lv_iconst (v := 1) hx hb dX4_isOdd_10 (by decide) ?_
    refine lv_goto (tgt := 15) hx hb dX4_isOdd_11 (by decide) ?_
    exact g_zret C0 G rfl ⟨by first | rfl | (exfalso; omega) | (simp only [od, bI, c_7, Bool.false_eq_true, ↓reduceIte, eq_self, decide_true, decide_false, not_true_eq_false, not_false_eq_true, Bool.true_and, Bool.false_and, Bool.and_true, Bool.and_false]; done) | (simp [od, bI, c_7]; done) | (simp [od, bI, c_7]; rfl) | (simp [od, bI, c_7]; omega), by first | rfl | (exfalso; omega) | (simp only [od, bI, c_7, Bool.false_eq_true, ↓reduceIte, eq_self, decide_true, decide_false, not_true_eq_false, not_false_eq_true, Bool.true_and, Bool.false_and, Bool.and_true, Bool.and_false]; done) | (simp [od, bI, c_7]; done) | (simp [od, bI, c_7]; rfl) | (simp [od, bI, c_7]; omega)⟩ dX4_isOdd_15

set_option maxHeartbeats 4000000 in
set_option maxRecDepth 100000 in
theorem c_X4_rowCells (l : Launch) (D : va_G) (cy : Nat → ClassId) (W1 : va_W) (r : Nat)  : GE l D (gts cy) yX4_rowCells cX4_rowCells 1 (some .long) 0 0 0 [.int (nI r)] (W1) (gF (some (.long (rowM r))) (W1)) := by
  refine g_intro (by decide +kernel) (lv := [(0, .int (nI r))]) rfl (Nat.le_of_ble_eq_true rfl) ?_
  intro p e s m below meth c C0 G ls hl
  have hx := C0.1
  have hb := C0.2.1
  have hown := C0.2.2.2.2.2.1
  have hts := C0.2.2.2.2.2.2.1
  refine lv_ldc2 (v := (255)) hx hb hown (hts _ kl_X4_273) dX4_rowCells_0 ?_
  refine lv_bipush (v := 8) hx hb dX4_rowCells_3 (by decide) ?_
  refine lv_iload_n hx hb dX4_rowCells_5 rfl (lv_at hl 0 rfl) ?_
  refine lv_imul hx hb dX4_rowCells_6 ?_
  refine g_topi (x' := nI (8 * r)) (pk_mul 8 r) ?_
  refine lv_lshl hx hb dX4_rowCells_7 rfl ?_
  exact g_lret C0 G ⟨by first | rfl | (exfalso; omega) | (simp only [Bool.false_eq_true, ↓reduceIte, eq_self, decide_true, decide_false, not_true_eq_false, not_false_eq_true, Bool.true_and, Bool.false_and, Bool.and_true, Bool.and_false]; done) | (simp []; done) | (simp []; rfl) | (simp []; omega), by first | rfl | (exfalso; omega) | (simp only [Bool.false_eq_true, ↓reduceIte, eq_self, decide_true, decide_false, not_true_eq_false, not_false_eq_true, Bool.true_and, Bool.false_and, Bool.and_true, Bool.and_false]; done) | (simp []; done) | (simp []; rfl) | (simp []; omega)⟩ dX4_rowCells_8

set_option maxHeartbeats 4000000 in
set_option maxRecDepth 100000 in
theorem c_X4_columnCells (l : Launch) (D : va_G) (cy : Nat → ClassId) (W1 : va_W) (k : Nat)  : GE l D (gts cy) yX4_columnCells cX4_columnCells 1 (some .long) 0 0 0 [.int (nI k)] (W1) (gF (some (.long (colM k))) (W1)) := by
  refine g_intro (by decide +kernel) (lv := [(0, .int (nI k))]) rfl (Nat.le_of_ble_eq_true rfl) ?_
  intro p e s m below meth c C0 G ls hl
  have hx := C0.1
  have hb := C0.2.1
  have hown := C0.2.2.2.2.2.1
  have hts := C0.2.2.2.2.2.2.1
  refine lv_ldc2 (v := (72340172838076673)) hx hb hown (hts _ kl_X4_275) dX4_columnCells_0 ?_
  refine lv_iload_n hx hb dX4_columnCells_3 rfl (lv_at hl 0 rfl) ?_
  refine lv_lshl hx hb dX4_columnCells_4 rfl ?_
  exact g_lret C0 G ⟨by first | rfl | (exfalso; omega) | (simp only [Bool.false_eq_true, ↓reduceIte, eq_self, decide_true, decide_false, not_true_eq_false, not_false_eq_true, Bool.true_and, Bool.false_and, Bool.and_true, Bool.and_false]; done) | (simp []; done) | (simp []; rfl) | (simp []; omega), by first | rfl | (exfalso; omega) | (simp only [Bool.false_eq_true, ↓reduceIte, eq_self, decide_true, decide_false, not_true_eq_false, not_false_eq_true, Bool.true_and, Bool.false_and, Bool.and_true, Bool.and_false]; done) | (simp []; done) | (simp []; rfl) | (simp []; omega)⟩ dX4_columnCells_5

set_option maxHeartbeats 4000000 in
set_option maxRecDepth 100000 in
theorem c_X0_sound (l : Launch) (D : va_G) (cy : Nat → ClassId) (R : va_W) (h : Nat) (f : Int64) (b : Int64) (v : Nat)   : GE l D (gts cy) yX0_sound cX0_sound 1 (some .long) 0 0 0 [.ref h] ((h, .inr (1, [.long f, .long b, .int (nI v)])) :: R) (gF (some (.long (sdW f b))) ((h, .inr (1, [.long f, .long b, .int (nI v)])) :: R)) := by
  refine g_intro (by decide +kernel) (lv := [(0, .ref h)]) rfl (Nat.le_of_ble_eq_true rfl) ?_
  intro p e s m below meth c C0 G ls hl
  have hx := C0.1
  have hb := C0.2.1
  have hown := C0.2.2.2.2.2.1
  have hts := C0.2.2.2.2.2.2.1
  refine lv_aload_n hx hb dX0_sound_0 rfl (lv_at hl 0 rfl) ?_
  refine g_get (q0 := 0) (v := .long f) C0 G in_X0 rfl rfl 0 (by decide) fl_X0_9 (fun _ h => h) rfl dX0_sound_1 ?_
  refine lv_aload_n hx hb dX0_sound_4 rfl (lv_at hl 0 rfl) ?_
  refine g_get (q0 := 0) (v := .long b) C0 G in_X0 rfl rfl 1 (by decide) fl_X0_15 (fun _ h => h) rfl dX0_sound_5 ?_
  refine lv_lxor hx hb dX0_sound_8 ?_
  exact g_lret C0 G ⟨by first | rfl | (exfalso; omega) | (simp only [Bool.false_eq_true, ↓reduceIte, eq_self, decide_true, decide_false, not_true_eq_false, not_false_eq_true, Bool.true_and, Bool.false_and, Bool.and_true, Bool.and_false]; done) | (simp []; done) | (simp []; rfl) | (simp []; omega), by first | rfl | (exfalso; omega) | (simp only [Bool.false_eq_true, ↓reduceIte, eq_self, decide_true, decide_false, not_true_eq_false, not_false_eq_true, Bool.true_and, Bool.false_and, Bool.and_true, Bool.and_false]; done) | (simp []; done) | (simp []; rfl) | (simp []; omega)⟩ dX0_sound_9

set_option maxHeartbeats 4000000 in
set_option maxRecDepth 100000 in
theorem c_X0_ones (l : Launch) (D : va_G) (cy : Nat → ClassId) (R : va_W) (h : Nat) (f : Int64) (b : Int64) (v : Nat)   : GE l D (gts cy) yX0_ones cX0_ones 1 (some .long) 0 0 0 [.ref h] ((h, .inr (1, [.long f, .long b, .int (nI v)])) :: R) (gF (some (.long (onW f b))) ((h, .inr (1, [.long f, .long b, .int (nI v)])) :: R)) := by
  refine g_intro (by decide +kernel) (lv := [(0, .ref h)]) rfl (Nat.le_of_ble_eq_true rfl) ?_
  intro p e s m below meth c C0 G ls hl
  have hx := C0.1
  have hb := C0.2.1
  have hown := C0.2.2.2.2.2.1
  have hts := C0.2.2.2.2.2.2.1
  refine lv_aload_n hx hb dX0_ones_0 rfl (lv_at hl 0 rfl) ?_
  refine g_get (q0 := 0) (v := .long f) C0 G in_X0 rfl rfl 0 (by decide) fl_X0_9 (fun _ h => h) rfl dX0_ones_1 ?_
  refine lv_aload_n hx hb dX0_ones_4 rfl (lv_at hl 0 rfl) ?_
  refine g_get (q0 := 0) (v := .long b) C0 G in_X0 rfl rfl 1 (by decide) fl_X0_15 (fun _ h => h) rfl dX0_ones_5 ?_
  refine lv_ldc2 (v := (-1)) hx hb hown (hts _ kl_X0_22) dX0_ones_8 ?_
  refine lv_lxor hx hb dX0_ones_11 ?_
  refine lv_land hx hb dX0_ones_12 ?_
  exact g_lret C0 G ⟨by first | rfl | (exfalso; omega) | (simp only [Bool.false_eq_true, ↓reduceIte, eq_self, decide_true, decide_false, not_true_eq_false, not_false_eq_true, Bool.true_and, Bool.false_and, Bool.and_true, Bool.and_false]; done) | (simp []; done) | (simp []; rfl) | (simp []; omega), by first | rfl | (exfalso; omega) | (simp only [Bool.false_eq_true, ↓reduceIte, eq_self, decide_true, decide_false, not_true_eq_false, not_false_eq_true, Bool.true_and, Bool.false_and, Bool.and_true, Bool.and_false]; done) | (simp []; done) | (simp []; rfl) | (simp []; omega)⟩ dX0_ones_13

set_option maxHeartbeats 4000000 in
set_option maxRecDepth 100000 in
theorem c_X0_blank (l : Launch) (D : va_G) (cy : Nat → ClassId) (R : va_W) (h : Nat) (f : Int64) (b : Int64) (v : Nat)   : GE l D (gts cy) yX0_blank cX0_blank 1 (some .long) 0 0 0 [.ref h] ((h, .inr (1, [.long f, .long b, .int (nI v)])) :: R) (gF (some (.long (blW f b))) ((h, .inr (1, [.long f, .long b, .int (nI v)])) :: R)) := by
  refine g_intro (by decide +kernel) (lv := [(0, .ref h)]) rfl (Nat.le_of_ble_eq_true rfl) ?_
  intro p e s m below meth c C0 G ls hl
  have hx := C0.1
  have hb := C0.2.1
  have hown := C0.2.2.2.2.2.1
  have hts := C0.2.2.2.2.2.2.1
  refine lv_aload_n hx hb dX0_blank_0 rfl (lv_at hl 0 rfl) ?_
  refine g_get (q0 := 0) (v := .long f) C0 G in_X0 rfl rfl 0 (by decide) fl_X0_9 (fun _ h => h) rfl dX0_blank_1 ?_
  refine lv_aload_n hx hb dX0_blank_4 rfl (lv_at hl 0 rfl) ?_
  refine g_get (q0 := 0) (v := .long b) C0 G in_X0 rfl rfl 1 (by decide) fl_X0_15 (fun _ h => h) rfl dX0_blank_5 ?_
  refine lv_lor hx hb dX0_blank_8 ?_
  refine lv_ldc2 (v := (-1)) hx hb hown (hts _ kl_X0_22) dX0_blank_9 ?_
  refine lv_lxor hx hb dX0_blank_12 ?_
  exact g_lret C0 G ⟨by first | rfl | (exfalso; omega) | (simp only [Bool.false_eq_true, ↓reduceIte, eq_self, decide_true, decide_false, not_true_eq_false, not_false_eq_true, Bool.true_and, Bool.false_and, Bool.and_true, Bool.and_false]; done) | (simp []; done) | (simp []; rfl) | (simp []; omega), by first | rfl | (exfalso; omega) | (simp only [Bool.false_eq_true, ↓reduceIte, eq_self, decide_true, decide_false, not_true_eq_false, not_false_eq_true, Bool.true_and, Bool.false_and, Bool.and_true, Bool.and_false]; done) | (simp []; done) | (simp []; rfl) | (simp []; omega)⟩ dX0_blank_13

set_option maxHeartbeats 4000000 in
set_option maxRecDepth 100000 in
theorem c_X0_clear (l : Launch) (D : va_G) (cy : Nat → ClassId) (R : va_W) (h : Nat) (f : Int64) (b : Int64) (v : Nat)   : GE l D (gts cy) yX0_clear cX0_clear 1 none 0 0 0 [.ref h] ((h, .inr (1, [.long f, .long b, .int (nI v)])) :: R) (gF none ((h, .inr (1, [.long 0, .long 0, .int (nI 0)])) :: R)) := by
  refine g_intro (by decide +kernel) (lv := [(0, .ref h)]) rfl (Nat.le_of_ble_eq_true rfl) ?_
  intro p e s m below meth c C0 G ls hl
  have hx := C0.1
  have hb := C0.2.1
  have hown := C0.2.2.2.2.2.1
  have hts := C0.2.2.2.2.2.2.1
  refine lv_aload_n hx hb dX0_clear_0 rfl (lv_at hl 0 rfl) ?_
  refine lv_lconst (v := 0) hx hb dX0_clear_1 (by decide) ?_
  refine g_put (q0 := 0) (W2 := (h, .inr (1, [.long (0 : Int64), .long b, .int (nI v)])) :: R) C0 G ft_X0 in_X0 rfl rfl 0 (by decide) fl_X0_9 (fun _ h => h) rfl rfl rfl (Nat.le_of_ble_eq_true rfl) rfl dX0_clear_2 (fun H locs G => ?_)
  refine lv_aload_n hx hb dX0_clear_5 rfl (lv_at hl 0 rfl) ?_
  refine lv_lconst (v := 0) hx hb dX0_clear_6 (by decide) ?_
  refine g_put (q0 := 0) (W2 := (h, .inr (1, [.long (0 : Int64), .long (0 : Int64), .int (nI v)])) :: R) C0 G ft_X0 in_X0 rfl rfl 1 (by decide) fl_X0_15 (fun _ h => h) rfl rfl rfl (Nat.le_of_ble_eq_true rfl) rfl dX0_clear_7 (fun H locs G => ?_)
  refine lv_aload_n hx hb dX0_clear_10 rfl (lv_at hl 0 rfl) ?_
  refine lv_iconst (v := 0) hx hb dX0_clear_11 (by decide) ?_
  refine g_put (q0 := 0) (W2 := (h, .inr (1, [.long (0 : Int64), .long (0 : Int64), .int 0])) :: R) C0 G ft_X0 in_X0 rfl rfl 2 (by decide) fl_X0_18 (fun _ h => h) rfl rfl rfl (Nat.le_of_ble_eq_true rfl) rfl dX0_clear_12 (fun H locs G => ?_)
  exact g_vret C0 G ⟨by first | rfl | (exfalso; omega) | (simp only [Bool.false_eq_true, ↓reduceIte, eq_self, decide_true, decide_false, not_true_eq_false, not_false_eq_true, Bool.true_and, Bool.false_and, Bool.and_true, Bool.and_false]; done) | (simp []; done) | (simp []; rfl) | (simp []; omega), by first | rfl | (exfalso; omega) | (simp only [Bool.false_eq_true, ↓reduceIte, eq_self, decide_true, decide_false, not_true_eq_false, not_false_eq_true, Bool.true_and, Bool.false_and, Bool.and_true, Bool.and_false]; done) | (simp []; done) | (simp []; rfl) | (simp []; omega)⟩ dX0_clear_15

set_option maxHeartbeats 4000000 in
set_option maxRecDepth 100000 in
theorem c_X0_cellsOfKind (l : Launch) (D : va_G) (cy : Nat → ClassId) (R : va_W) (h : Nat) (f : Int64) (b : Int64) (v : Nat) (k : Nat) (h1 : k < 4) : GE l D (gts cy) yX0_cellsOfKind cX0_cellsOfKind 2 (some .long) 1 0 0 [.ref h, .int (nI k)] ((h, .inr (1, [.long f, .long b, .int (nI v)])) :: R) (gF (some (.long (kdW f b k))) ((h, .inr (1, [.long f, .long b, .int (nI v)])) :: R)) := by
  refine g_intro (by decide +kernel) (lv := [(0, .ref h), (1, .int (nI k))]) rfl (Nat.le_of_ble_eq_true rfl) ?_
  intro p e s m below meth c C0 G ls hl
  have hx := C0.1
  have hb := C0.2.1
  have hown := C0.2.2.2.2.2.1
  have hts := C0.2.2.2.2.2.2.1
  refine lv_iload_n hx hb dX0_cellsOfKind_0 rfl (lv_at hl 1 rfl) ?_
  by_cases s_1_0 : k = 0
  · skip
    refine lv_tableIn (off := 27) (tgt := 28) hx hb dX0_cellsOfKind_1 (by rw [s_1_0]; decide) (by rw [s_1_0]; decide) (by rw [s_1_0]; rfl) (by decide) ?_
    refine lv_aload_n hx hb dX0_cellsOfKind_28 rfl (lv_at hl 0 rfl) ?_
    refine g_get (q0 := 0) (v := .long b) C0 G in_X0 rfl rfl 1 (by decide) fl_X0_15 (fun _ h => h) rfl dX0_cellsOfKind_29 ?_
    refine lv_aload_n hx hb dX0_cellsOfKind_32 rfl (lv_at hl 0 rfl) ?_
    refine g_get (q0 := 0) (v := .long f) C0 G in_X0 rfl rfl 0 (by decide) fl_X0_9 (fun _ h => h) rfl dX0_cellsOfKind_33 ?_
    refine lv_ldc2 (v := (-1)) hx hb hown (hts _ kl_X0_22) dX0_cellsOfKind_36 ?_
    refine lv_lxor hx hb dX0_cellsOfKind_39 ?_
    refine lv_land hx hb dX0_cellsOfKind_40 ?_
    exact g_lret C0 G ⟨by first | rfl | (exfalso; omega) | (simp only [kdW, s_1_0, Bool.false_eq_true, ↓reduceIte, eq_self, decide_true, decide_false, not_true_eq_false, not_false_eq_true, Bool.true_and, Bool.false_and, Bool.and_true, Bool.and_false]; done) | (simp [kdW, s_1_0]; done) | (simp [kdW, s_1_0]; rfl) | (simp [kdW, s_1_0]; omega), by first | rfl | (exfalso; omega) | (simp only [kdW, s_1_0, Bool.false_eq_true, ↓reduceIte, eq_self, decide_true, decide_false, not_true_eq_false, not_false_eq_true, Bool.true_and, Bool.false_and, Bool.and_true, Bool.and_false]; done) | (simp [kdW, s_1_0]; done) | (simp [kdW, s_1_0]; rfl) | (simp [kdW, s_1_0]; omega)⟩ dX0_cellsOfKind_41
  by_cases s_1_1 : k = 1
  · skip
    refine lv_tableIn (off := 41) (tgt := 42) hx hb dX0_cellsOfKind_1 (by rw [s_1_1]; decide) (by rw [s_1_1]; decide) (by rw [s_1_1]; rfl) (by decide) ?_
    refine lv_aload_n hx hb dX0_cellsOfKind_42 rfl (lv_at hl 0 rfl) ?_
    refine g_callV (As := []) (rest := []) (q0 := 0) C0 G (c_X0_ones l D cy (R := R) (h := h) (f := f) (b := b) (v := v)  ) k_X0_ones ml_X0_24 rfl rfl dX0_cellsOfKind_43 rfl rfl hl.1 (Nat.le_of_ble_eq_true rfl) ⟨Nat.le_of_ble_eq_true rfl, Nat.le_of_ble_eq_true rfl⟩ ⟨Nat.le_of_ble_eq_true rfl, Nat.le_of_ble_eq_true rfl⟩ (fun r W2 H locs hp G => ?_)
    obtain ⟨rfl, hw⟩ := hp
    have G := g_wc hw G
    refine W.eq (g2 := F0 m 46 ls [.long (onW f b)]) rfl ?_
    exact g_lret C0 G ⟨by first | rfl | (exfalso; omega) | (simp only [kdW, s_1_0, s_1_1, Bool.false_eq_true, ↓reduceIte, eq_self, decide_true, decide_false, not_true_eq_false, not_false_eq_true, Bool.true_and, Bool.false_and, Bool.and_true, Bool.and_false]; done) | (simp [kdW, s_1_0, s_1_1]; done) | (simp [kdW, s_1_0, s_1_1]; rfl) | (simp [kdW, s_1_0, s_1_1]; omega), by first | rfl | (exfalso; omega) | (simp only [kdW, s_1_0, s_1_1, Bool.false_eq_true, ↓reduceIte, eq_self, decide_true, decide_false, not_true_eq_false, not_false_eq_true, Bool.true_and, Bool.false_and, Bool.and_true, Bool.and_false]; done) | (simp [kdW, s_1_0, s_1_1]; done) | (simp [kdW, s_1_0, s_1_1]; rfl) | (simp [kdW, s_1_0, s_1_1]; omega)⟩ dX0_cellsOfKind_46
  by_cases s_1_2 : k = 2
  · skip
    refine lv_tableIn (off := 46) (tgt := 47) hx hb dX0_cellsOfKind_1 (by rw [s_1_2]; decide) (by rw [s_1_2]; decide) (by rw [s_1_2]; rfl) (by decide) ?_
    refine lv_aload_n hx hb dX0_cellsOfKind_47 rfl (lv_at hl 0 rfl) ?_
    refine g_callV (As := []) (rest := []) (q0 := 0) C0 G (c_X0_blank l D cy (R := R) (h := h) (f := f) (b := b) (v := v)  ) k_X0_blank ml_X0_28 rfl rfl dX0_cellsOfKind_48 rfl rfl hl.1 (Nat.le_of_ble_eq_true rfl) ⟨Nat.le_of_ble_eq_true rfl, Nat.le_of_ble_eq_true rfl⟩ ⟨Nat.le_of_ble_eq_true rfl, Nat.le_of_ble_eq_true rfl⟩ (fun r W2 H locs hp G => ?_)
    obtain ⟨rfl, hw⟩ := hp
    have G := g_wc hw G
    refine W.eq (g2 := F0 m 51 ls [.long (blW f b)]) rfl ?_
    exact g_lret C0 G ⟨by first | rfl | (exfalso; omega) | (simp only [kdW, s_1_0, s_1_1, s_1_2, Bool.false_eq_true, ↓reduceIte, eq_self, decide_true, decide_false, not_true_eq_false, not_false_eq_true, Bool.true_and, Bool.false_and, Bool.and_true, Bool.and_false]; done) | (simp [kdW, s_1_0, s_1_1, s_1_2]; done) | (simp [kdW, s_1_0, s_1_1, s_1_2]; rfl) | (simp [kdW, s_1_0, s_1_1, s_1_2]; omega), by first | rfl | (exfalso; omega) | (simp only [kdW, s_1_0, s_1_1, s_1_2, Bool.false_eq_true, ↓reduceIte, eq_self, decide_true, decide_false, not_true_eq_false, not_false_eq_true, Bool.true_and, Bool.false_and, Bool.and_true, Bool.and_false]; done) | (simp [kdW, s_1_0, s_1_1, s_1_2]; done) | (simp [kdW, s_1_0, s_1_1, s_1_2]; rfl) | (simp [kdW, s_1_0, s_1_1, s_1_2]; omega)⟩ dX0_cellsOfKind_51
  refine lv_tableOut (tgt := 52) hx hb dX0_cellsOfKind_1 (Or.inr (by rw [nI_toInt (by omega)]; omega)) (by decide) ?_
  refine lv_aload_n hx hb dX0_cellsOfKind_52 rfl (lv_at hl 0 rfl) ?_
  refine g_get (q0 := 0) (v := .long f) C0 G in_X0 rfl rfl 0 (by decide) fl_X0_9 (fun _ h => h) rfl dX0_cellsOfKind_53 ?_
  refine lv_aload_n hx hb dX0_cellsOfKind_56 rfl (lv_at hl 0 rfl) ?_
  refine g_get (q0 := 0) (v := .long b) C0 G in_X0 rfl rfl 1 (by decide) fl_X0_15 (fun _ h => h) rfl dX0_cellsOfKind_57 ?_
  refine lv_land hx hb dX0_cellsOfKind_60 ?_
  exact g_lret C0 G ⟨by first | rfl | (exfalso; omega) | (simp only [kdW, s_1_0, s_1_1, s_1_2, Bool.false_eq_true, ↓reduceIte, eq_self, decide_true, decide_false, not_true_eq_false, not_false_eq_true, Bool.true_and, Bool.false_and, Bool.and_true, Bool.and_false]; done) | (simp [kdW, s_1_0, s_1_1, s_1_2]; done) | (simp [kdW, s_1_0, s_1_1, s_1_2]; rfl) | (simp [kdW, s_1_0, s_1_1, s_1_2]; omega), by first | rfl | (exfalso; omega) | (simp only [kdW, s_1_0, s_1_1, s_1_2, Bool.false_eq_true, ↓reduceIte, eq_self, decide_true, decide_false, not_true_eq_false, not_false_eq_true, Bool.true_and, Bool.false_and, Bool.and_true, Bool.and_false]; done) | (simp [kdW, s_1_0, s_1_1, s_1_2]; done) | (simp [kdW, s_1_0, s_1_1, s_1_2]; rfl) | (simp [kdW, s_1_0, s_1_1, s_1_2]; omega)⟩ dX0_cellsOfKind_61

set_option maxHeartbeats 4000000 in
set_option maxRecDepth 100000 in
theorem c_X0_kindAt (l : Launch) (D : va_G) (cy : Nat → ClassId) (R : va_W) (h : Nat) (f : Int64) (b : Int64) (v : Nat) (k : Nat) (h1 : k < 64) : GE l D (gts cy) yX0_kindAt cX0_kindAt 2 (some .int) 1 0 0 [.ref h, .int (nI k)] ((h, .inr (1, [.long f, .long b, .int (nI v)])) :: R) (gF (some (.int (kdI f b k))) ((h, .inr (1, [.long f, .long b, .int (nI v)])) :: R)) := by
  refine g_intro (by decide +kernel) (lv := [(0, .ref h), (1, .int (nI k))]) rfl (Nat.le_of_ble_eq_true rfl) ?_
  intro p e s m below meth c C0 G ls hl
  have hx := C0.1
  have hb := C0.2.1
  have hown := C0.2.2.2.2.2.1
  have hts := C0.2.2.2.2.2.2.1
  refine lv_aload_n hx hb dX0_kindAt_0 rfl (lv_at hl 0 rfl) ?_
  refine g_get (q0 := 0) (v := .long f) C0 G in_X0 rfl rfl 0 (by decide) fl_X0_9 (fun _ h => h) rfl dX0_kindAt_1 ?_
  refine lv_iload_n hx hb dX0_kindAt_4 rfl (lv_at hl 1 rfl) ?_
  refine g_callSN (As := [.long f, .int (nI k)]) (rest := []) C0 G (c_X4_isIn l D cy (W1 := (h, .inr (1, [.long f, .long b, .int (nI v)])) :: R) (w := f) (k := k) (by omega)) k_X4_isIn nm_X0_31 dX0_kindAt_5 rfl rfl hl.1 (Nat.le_of_ble_eq_true rfl) ⟨Nat.le_of_ble_eq_true rfl, Nat.le_of_ble_eq_true rfl⟩ ⟨Nat.le_of_ble_eq_true rfl, Nat.le_of_ble_eq_true rfl⟩ (fun r W2 H locs hp G => ?_)
  obtain ⟨rfl, hw⟩ := hp
  have G := g_wc hw G
  refine W.eq (g2 := F0 m 8 ls [.int (bI (tb f k))]) rfl ?_
  refine lv_if_eq (tgt := 28) hx hb dX0_kindAt_8 (by decide) (fun c_8 => ?_) (fun c_8 => ?_)
  · skip
    have c_8 : (tb f k) = false := bI_f c_8
    refine lv_aload_n hx hb dX0_kindAt_28 rfl (lv_at hl 0 rfl) ?_
    refine g_get (q0 := 0) (v := .long b) C0 G in_X0 rfl rfl 1 (by decide) fl_X0_15 (fun _ h => h) rfl dX0_kindAt_29 ?_
    refine lv_iload_n hx hb dX0_kindAt_32 rfl (lv_at hl 1 rfl) ?_
    refine g_callSN (As := [.long b, .int (nI k)]) (rest := []) C0 G (c_X4_isIn l D cy (W1 := (h, .inr (1, [.long f, .long b, .int (nI v)])) :: R) (w := b) (k := k) (by omega)) k_X4_isIn nm_X0_31 dX0_kindAt_33 rfl rfl hl.1 (Nat.le_of_ble_eq_true rfl) ⟨Nat.le_of_ble_eq_true rfl, Nat.le_of_ble_eq_true rfl⟩ ⟨Nat.le_of_ble_eq_true rfl, Nat.le_of_ble_eq_true rfl⟩ (fun r W2 H locs hp G => ?_)
    obtain ⟨rfl, hw⟩ := hp
    have G := g_wc hw G
    refine W.eq (g2 := F0 m 36 ls [.int (bI (tb b k))]) rfl ?_
    refine lv_if_eq (tgt := 43) hx hb dX0_kindAt_36 (by decide) (fun c_36 => ?_) (fun c_36 => ?_)
    · skip
      have c_36 : (tb b k) = false := bI_f c_36
      refine lv_iconst (v := 2) hx hb dX0_kindAt_43 (by decide) ?_
      exact g_iret C0 G ⟨by first | rfl | (exfalso; omega) | (simp only [kdI, c_8, c_36, Bool.false_eq_true, ↓reduceIte, eq_self, decide_true, decide_false, not_true_eq_false, not_false_eq_true, Bool.true_and, Bool.false_and, Bool.and_true, Bool.and_false]; done) | (simp [kdI, c_8, c_36]; done) | (simp [kdI, c_8, c_36]; rfl) | (simp [kdI, c_8, c_36]; omega), by first | rfl | (exfalso; omega) | (simp only [kdI, c_8, c_36, Bool.false_eq_true, ↓reduceIte, eq_self, decide_true, decide_false, not_true_eq_false, not_false_eq_true, Bool.true_and, Bool.false_and, Bool.and_true, Bool.and_false]; done) | (simp [kdI, c_8, c_36]; done) | (simp [kdI, c_8, c_36]; rfl) | (simp [kdI, c_8, c_36]; omega)⟩ dX0_kindAt_44
    · skip
      have c_36 : (tb b k) = true := bI_t c_36
      refine lv_iconst (v := 0) hx hb dX0_kindAt_39 (by decide) ?_
      refine lv_goto (tgt := 44) hx hb dX0_kindAt_40 (by decide) ?_
      exact g_iret C0 G ⟨by first | rfl | (exfalso; omega) | (simp only [kdI, c_8, c_36, Bool.false_eq_true, ↓reduceIte, eq_self, decide_true, decide_false, not_true_eq_false, not_false_eq_true, Bool.true_and, Bool.false_and, Bool.and_true, Bool.and_false]; done) | (simp [kdI, c_8, c_36]; done) | (simp [kdI, c_8, c_36]; rfl) | (simp [kdI, c_8, c_36]; omega), by first | rfl | (exfalso; omega) | (simp only [kdI, c_8, c_36, Bool.false_eq_true, ↓reduceIte, eq_self, decide_true, decide_false, not_true_eq_false, not_false_eq_true, Bool.true_and, Bool.false_and, Bool.and_true, Bool.and_false]; done) | (simp [kdI, c_8, c_36]; done) | (simp [kdI, c_8, c_36]; rfl) | (simp [kdI, c_8, c_36]; omega)⟩ dX0_kindAt_44
  · skip
    have c_8 : (tb f k) = true := bI_t c_8
    refine lv_aload_n hx hb dX0_kindAt_11 rfl (lv_at hl 0 rfl) ?_
    refine g_get (q0 := 0) (v := .long b) C0 G in_X0 rfl rfl 1 (by decide) fl_X0_15 (fun _ h => h) rfl dX0_kindAt_12 ?_
    refine lv_iload_n hx hb dX0_kindAt_15 rfl (lv_at hl 1 rfl) ?_
    refine g_callSN (As := [.long b, .int (nI k)]) (rest := []) C0 G (c_X4_isIn l D cy (W1 := (h, .inr (1, [.long f, .long b, .int (nI v)])) :: R) (w := b) (k := k) (by omega)) k_X4_isIn nm_X0_31 dX0_kindAt_16 rfl rfl hl.1 (Nat.le_of_ble_eq_true rfl) ⟨Nat.le_of_ble_eq_true rfl, Nat.le_of_ble_eq_true rfl⟩ ⟨Nat.le_of_ble_eq_true rfl, Nat.le_of_ble_eq_true rfl⟩ (fun r W2 H locs hp G => ?_)
    obtain ⟨rfl, hw⟩ := hp
    have G := g_wc hw G
    refine W.eq (g2 := F0 m 19 ls [.int (bI (tb b k))]) rfl ?_
    refine lv_if_eq (tgt := 26) hx hb dX0_kindAt_19 (by decide) (fun c_19 => ?_) (fun c_19 => ?_)
    · skip
      have c_19 : (tb b k) = false := bI_f c_19
      refine lv_iconst (v := 1) hx hb dX0_kindAt_26 (by decide) ?_
      exact g_iret C0 G ⟨by first | rfl | (exfalso; omega) | (simp only [kdI, c_8, c_19, Bool.false_eq_true, ↓reduceIte, eq_self, decide_true, decide_false, not_true_eq_false, not_false_eq_true, Bool.true_and, Bool.false_and, Bool.and_true, Bool.and_false]; done) | (simp [kdI, c_8, c_19]; done) | (simp [kdI, c_8, c_19]; rfl) | (simp [kdI, c_8, c_19]; omega), by first | rfl | (exfalso; omega) | (simp only [kdI, c_8, c_19, Bool.false_eq_true, ↓reduceIte, eq_self, decide_true, decide_false, not_true_eq_false, not_false_eq_true, Bool.true_and, Bool.false_and, Bool.and_true, Bool.and_false]; done) | (simp [kdI, c_8, c_19]; done) | (simp [kdI, c_8, c_19]; rfl) | (simp [kdI, c_8, c_19]; omega)⟩ dX0_kindAt_27
    · skip
      have c_19 : (tb b k) = true := bI_t c_19
      refine lv_iconst (v := 3) hx hb dX0_kindAt_22 (by decide) ?_
      refine lv_goto (tgt := 27) hx hb dX0_kindAt_23 (by decide) ?_
      exact g_iret C0 G ⟨by first | rfl | (exfalso; omega) | (simp only [kdI, c_8, c_19, Bool.false_eq_true, ↓reduceIte, eq_self, decide_true, decide_false, not_true_eq_false, not_false_eq_true, Bool.true_and, Bool.false_and, Bool.and_true, Bool.and_false]; done) | (simp [kdI, c_8, c_19]; done) | (simp [kdI, c_8, c_19]; rfl) | (simp [kdI, c_8, c_19]; omega), by first | rfl | (exfalso; omega) | (simp only [kdI, c_8, c_19, Bool.false_eq_true, ↓reduceIte, eq_self, decide_true, decide_false, not_true_eq_false, not_false_eq_true, Bool.true_and, Bool.false_and, Bool.and_true, Bool.and_false]; done) | (simp [kdI, c_8, c_19]; done) | (simp [kdI, c_8, c_19]; rfl) | (simp [kdI, c_8, c_19]; omega)⟩ dX0_kindAt_27

set_option maxHeartbeats 4000000 in
set_option maxRecDepth 100000 in
theorem c_X0_hasHole (l : Launch) (D : va_G) (cy : Nat → ClassId) (R : va_W) (h : Nat) (f : Int64) (b : Int64) (v : Nat) (ib : Bool) (k : Nat) (h1 : k < 64) : GE l D (gts cy) yX0_hasHole cX0_hasHole 3 (some .boolean) 1 0 0 [.ref h, .int (bI ib), .int (nI k)] ((h, .inr (1, [.long f, .long b, .int (nI v)])) :: R) (gF (some (.int (bI (hoB f b ib k)))) ((h, .inr (1, [.long f, .long b, .int (nI v)])) :: R)) := by
  refine g_intro (by decide +kernel) (lv := [(0, .ref h), (1, .int (bI ib)), (2, .int (nI k))]) rfl (Nat.le_of_ble_eq_true rfl) ?_
  intro p e s m below meth c C0 G ls hl
  have hx := C0.1
  have hb := C0.2.1
  have hown := C0.2.2.2.2.2.1
  have hts := C0.2.2.2.2.2.2.1
  refine lv_iload_n hx hb dX0_hasHole_0 rfl (lv_at hl 1 rfl) ?_
  refine lv_if_eq (tgt := 11) hx hb dX0_hasHole_1 (by decide) (fun c_1 => ?_) (fun c_1 => ?_)
  · skip
    have c_1 : ib = false := bI_f c_1
    refine lv_aload_n hx hb dX0_hasHole_11 rfl (lv_at hl 0 rfl) ?_
    refine g_get (q0 := 0) (v := .long f) C0 G in_X0 rfl rfl 0 (by decide) fl_X0_9 (fun _ h => h) rfl dX0_hasHole_12 ?_
    refine lv_iload_n hx hb dX0_hasHole_15 rfl (lv_at hl 2 rfl) ?_
    refine g_callSN (As := [.long f, .int (nI k)]) (rest := []) C0 G (c_X4_isIn l D cy (W1 := (h, .inr (1, [.long f, .long b, .int (nI v)])) :: R) (w := f) (k := k) (by omega)) k_X4_isIn nm_X0_31 dX0_hasHole_16 rfl rfl hl.1 (Nat.le_of_ble_eq_true rfl) ⟨Nat.le_of_ble_eq_true rfl, Nat.le_of_ble_eq_true rfl⟩ ⟨Nat.le_of_ble_eq_true rfl, Nat.le_of_ble_eq_true rfl⟩ (fun r W2 H locs hp G => ?_)
    obtain ⟨rfl, hw⟩ := hp
    have G := g_wc hw G
    refine W.eq (g2 := F0 m 19 ls [.int (bI (tb f k))]) rfl ?_
    exact g_zret C0 G (g_nz _) ⟨by first | rfl | (exfalso; omega) | (simp only [hoB, c_1, Bool.false_eq_true, ↓reduceIte, eq_self, decide_true, decide_false, not_true_eq_false, not_false_eq_true, Bool.true_and, Bool.false_and, Bool.and_true, Bool.and_false]; done) | (simp [hoB, c_1]; done) | (simp [hoB, c_1]; rfl) | (simp [hoB, c_1]; omega), by first | rfl | (exfalso; omega) | (simp only [hoB, c_1, Bool.false_eq_true, ↓reduceIte, eq_self, decide_true, decide_false, not_true_eq_false, not_false_eq_true, Bool.true_and, Bool.false_and, Bool.and_true, Bool.and_false]; done) | (simp [hoB, c_1]; done) | (simp [hoB, c_1]; rfl) | (simp [hoB, c_1]; omega)⟩ dX0_hasHole_19
  · skip
    have c_1 : ib = true := bI_t c_1
    refine lv_aload_n hx hb dX0_hasHole_4 rfl (lv_at hl 0 rfl) ?_
    refine g_get (q0 := 0) (v := .long b) C0 G in_X0 rfl rfl 1 (by decide) fl_X0_15 (fun _ h => h) rfl dX0_hasHole_5 ?_
    refine lv_goto (tgt := 15) hx hb dX0_hasHole_8 (by decide) ?_
    refine lv_iload_n hx hb dX0_hasHole_15 rfl (lv_at hl 2 rfl) ?_
    refine g_callSN (As := [.long b, .int (nI k)]) (rest := []) C0 G (c_X4_isIn l D cy (W1 := (h, .inr (1, [.long f, .long b, .int (nI v)])) :: R) (w := b) (k := k) (by omega)) k_X4_isIn nm_X0_31 dX0_hasHole_16 rfl rfl hl.1 (Nat.le_of_ble_eq_true rfl) ⟨Nat.le_of_ble_eq_true rfl, Nat.le_of_ble_eq_true rfl⟩ ⟨Nat.le_of_ble_eq_true rfl, Nat.le_of_ble_eq_true rfl⟩ (fun r W2 H locs hp G => ?_)
    obtain ⟨rfl, hw⟩ := hp
    have G := g_wc hw G
    refine W.eq (g2 := F0 m 19 ls [.int (bI (tb b k))]) rfl ?_
    exact g_zret C0 G (g_nz _) ⟨by first | rfl | (exfalso; omega) | (simp only [hoB, c_1, Bool.false_eq_true, ↓reduceIte, eq_self, decide_true, decide_false, not_true_eq_false, not_false_eq_true, Bool.true_and, Bool.false_and, Bool.and_true, Bool.and_false]; done) | (simp [hoB, c_1]; done) | (simp [hoB, c_1]; rfl) | (simp [hoB, c_1]; omega), by first | rfl | (exfalso; omega) | (simp only [hoB, c_1, Bool.false_eq_true, ↓reduceIte, eq_self, decide_true, decide_false, not_true_eq_false, not_false_eq_true, Bool.true_and, Bool.false_and, Bool.and_true, Bool.and_false]; done) | (simp [hoB, c_1]; done) | (simp [hoB, c_1]; rfl) | (simp [hoB, c_1]; omega)⟩ dX0_hasHole_19

set_option maxHeartbeats 4000000 in
set_option maxRecDepth 100000 in
theorem c_X0_setHole (l : Launch) (D : va_G) (cy : Nat → ClassId) (R : va_W) (h : Nat) (f : Int64) (b : Int64) (v : Nat) (ib : Bool) (k : Nat) (ho : Bool) (h1 : k < 64) : GE l D (gts cy) yX0_setHole cX0_setHole 6 none 0 0 0 [.ref h, .int (bI ib), .int (nI k), .int (bI ho)] ((h, .inr (1, [.long f, .long b, .int (nI v)])) :: R) (gF none ((h, .inr (1, [.long (shF f ib k ho), .long (shB b ib k ho), .int (nI v)])) :: R)) := by
  refine g_intro (by decide +kernel) (lv := [(0, .ref h), (1, .int (bI ib)), (2, .int (nI k)), (3, .int (bI ho))]) rfl (Nat.le_of_ble_eq_true rfl) ?_
  intro p e s m below meth c C0 G ls hl
  have hx := C0.1
  have hb := C0.2.1
  have hown := C0.2.2.2.2.2.1
  have hts := C0.2.2.2.2.2.2.1
  refine lv_lconst (v := 1) hx hb dX0_setHole_0 (by decide) ?_
  refine lv_iload_n hx hb dX0_setHole_1 rfl (lv_at hl 2 rfl) ?_
  refine lv_lshl hx hb dX0_setHole_2 rfl ?_
  refine lv_lstore (lv' := [(4, .long ((1 : Int64) <<< ((nI k).toInt64 &&& 63))), (0, .ref h), (1, .int (bI ib)), (2, .int (nI k)), (3, .int (bI ho))]) hx hb dX0_setHole_3 hl (by decide) rfl (fun ls hl => ?_)
  refine lv_iload_n hx hb dX0_setHole_5 rfl (lv_at hl 2 rfl) ?_
  refine lv_if_eq (tgt := 41) hx hb dX0_setHole_6 (by decide) (fun c_6 => ?_) (fun c_6 => ?_)
  · skip
    have c_6 : ib = false := bI_f c_6
    refine lv_aload_n hx hb dX0_setHole_41 rfl (lv_at hl 1 rfl) ?_
    refine lv_iload_n hx hb dX0_setHole_42 rfl (lv_at hl 4 rfl) ?_
    refine lv_if_eq (tgt := 56) hx hb dX0_setHole_43 (by decide) (fun c_43 => ?_) (fun c_43 => ?_)
    · skip
      have c_43 : ho = false := bI_f c_43
      refine lv_aload_n hx hb dX0_setHole_56 rfl (lv_at hl 1 rfl) ?_
      refine g_get (q0 := 0) (v := .long f) C0 G in_X0 rfl rfl 0 (by decide) fl_X0_9 (fun _ h => h) rfl dX0_setHole_57 ?_
      refine lv_lload hx hb dX0_setHole_60 (lv_at hl 0 rfl) ?_
      refine lv_ldc2 (v := (-1)) hx hb hown (hts _ kl_X0_22) dX0_setHole_62 ?_
      refine lv_lxor hx hb dX0_setHole_65 ?_
      refine lv_land hx hb dX0_setHole_66 ?_
      refine g_put (q0 := 0) (W2 := (h, .inr (1, [.long (f &&& (((1 : Int64) <<< ((nI k).toInt64 &&& 63)) ^^^ ((-1) : Int64))), .long b, .int (nI v)])) :: R) C0 G ft_X0 in_X0 rfl rfl 0 (by decide) fl_X0_9 (fun _ h => h) rfl rfl rfl (Nat.le_of_ble_eq_true rfl) rfl dX0_setHole_67 (fun H locs G => ?_)
      exact g_vret C0 G ⟨by first | rfl | (exfalso; omega) | (simp only [shF, shB, shW, bitM, c_6, c_43, Bool.false_eq_true, ↓reduceIte, eq_self, decide_true, decide_false, not_true_eq_false, not_false_eq_true, Bool.true_and, Bool.false_and, Bool.and_true, Bool.and_false]; done) | (simp [shF, shB, shW, bitM, c_6, c_43]; done) | (simp [shF, shB, shW, bitM, c_6, c_43]; rfl) | (simp [shF, shB, shW, bitM, c_6, c_43]; omega), by first | rfl | (exfalso; omega) | (simp only [shF, shB, shW, bitM, c_6, c_43, Bool.false_eq_true, ↓reduceIte, eq_self, decide_true, decide_false, not_true_eq_false, not_false_eq_true, Bool.true_and, Bool.false_and, Bool.and_true, Bool.and_false]; done) | (simp [shF, shB, shW, bitM, c_6, c_43]; done) | (simp [shF, shB, shW, bitM, c_6, c_43]; rfl) | (simp [shF, shB, shW, bitM, c_6, c_43]; omega)⟩ dX0_setHole_70
    · skip
      have c_43 : ho = true := bI_t c_43
      refine lv_aload_n hx hb dX0_setHole_46 rfl (lv_at hl 1 rfl) ?_
      refine g_get (q0 := 0) (v := .long f) C0 G in_X0 rfl rfl 0 (by decide) fl_X0_9 (fun _ h => h) rfl dX0_setHole_47 ?_
      refine lv_lload hx hb dX0_setHole_50 (lv_at hl 0 rfl) ?_
      refine lv_lor hx hb dX0_setHole_52 ?_
      refine lv_goto (tgt := 67) hx hb dX0_setHole_53 (by decide) ?_
      refine g_put (q0 := 0) (W2 := (h, .inr (1, [.long (f ||| ((1 : Int64) <<< ((nI k).toInt64 &&& 63))), .long b, .int (nI v)])) :: R) C0 G ft_X0 in_X0 rfl rfl 0 (by decide) fl_X0_9 (fun _ h => h) rfl rfl rfl (Nat.le_of_ble_eq_true rfl) rfl dX0_setHole_67 (fun H locs G => ?_)
      exact g_vret C0 G ⟨by first | rfl | (exfalso; omega) | (simp only [shF, shB, shW, bitM, c_6, c_43, Bool.false_eq_true, ↓reduceIte, eq_self, decide_true, decide_false, not_true_eq_false, not_false_eq_true, Bool.true_and, Bool.false_and, Bool.and_true, Bool.and_false]; done) | (simp [shF, shB, shW, bitM, c_6, c_43]; done) | (simp [shF, shB, shW, bitM, c_6, c_43]; rfl) | (simp [shF, shB, shW, bitM, c_6, c_43]; omega), by first | rfl | (exfalso; omega) | (simp only [shF, shB, shW, bitM, c_6, c_43, Bool.false_eq_true, ↓reduceIte, eq_self, decide_true, decide_false, not_true_eq_false, not_false_eq_true, Bool.true_and, Bool.false_and, Bool.and_true, Bool.and_false]; done) | (simp [shF, shB, shW, bitM, c_6, c_43]; done) | (simp [shF, shB, shW, bitM, c_6, c_43]; rfl) | (simp [shF, shB, shW, bitM, c_6, c_43]; omega)⟩ dX0_setHole_70
  · skip
    have c_6 : ib = true := bI_t c_6
    refine lv_aload_n hx hb dX0_setHole_9 rfl (lv_at hl 1 rfl) ?_
    refine lv_iload_n hx hb dX0_setHole_10 rfl (lv_at hl 4 rfl) ?_
    refine lv_if_eq (tgt := 24) hx hb dX0_setHole_11 (by decide) (fun c_11 => ?_) (fun c_11 => ?_)
    · skip
      have c_11 : ho = false := bI_f c_11
      refine lv_aload_n hx hb dX0_setHole_24 rfl (lv_at hl 1 rfl) ?_
      refine g_get (q0 := 0) (v := .long b) C0 G in_X0 rfl rfl 1 (by decide) fl_X0_15 (fun _ h => h) rfl dX0_setHole_25 ?_
      refine lv_lload hx hb dX0_setHole_28 (lv_at hl 0 rfl) ?_
      refine lv_ldc2 (v := (-1)) hx hb hown (hts _ kl_X0_22) dX0_setHole_30 ?_
      refine lv_lxor hx hb dX0_setHole_33 ?_
      refine lv_land hx hb dX0_setHole_34 ?_
      refine g_put (q0 := 0) (W2 := (h, .inr (1, [.long f, .long (b &&& (((1 : Int64) <<< ((nI k).toInt64 &&& 63)) ^^^ ((-1) : Int64))), .int (nI v)])) :: R) C0 G ft_X0 in_X0 rfl rfl 1 (by decide) fl_X0_15 (fun _ h => h) rfl rfl rfl (Nat.le_of_ble_eq_true rfl) rfl dX0_setHole_35 (fun H locs G => ?_)
      refine lv_goto (tgt := 70) hx hb dX0_setHole_38 (by decide) ?_
      exact g_vret C0 G ⟨by first | rfl | (exfalso; omega) | (simp only [shF, shB, shW, bitM, c_6, c_11, Bool.false_eq_true, ↓reduceIte, eq_self, decide_true, decide_false, not_true_eq_false, not_false_eq_true, Bool.true_and, Bool.false_and, Bool.and_true, Bool.and_false]; done) | (simp [shF, shB, shW, bitM, c_6, c_11]; done) | (simp [shF, shB, shW, bitM, c_6, c_11]; rfl) | (simp [shF, shB, shW, bitM, c_6, c_11]; omega), by first | rfl | (exfalso; omega) | (simp only [shF, shB, shW, bitM, c_6, c_11, Bool.false_eq_true, ↓reduceIte, eq_self, decide_true, decide_false, not_true_eq_false, not_false_eq_true, Bool.true_and, Bool.false_and, Bool.and_true, Bool.and_false]; done) | (simp [shF, shB, shW, bitM, c_6, c_11]; done) | (simp [shF, shB, shW, bitM, c_6, c_11]; rfl) | (simp [shF, shB, shW, bitM, c_6, c_11]; omega)⟩ dX0_setHole_70
    · skip
      have c_11 : ho = true := bI_t c_11
      refine lv_aload_n hx hb dX0_setHole_14 rfl (lv_at hl 1 rfl) ?_
      refine g_get (q0 := 0) (v := .long b) C0 G in_X0 rfl rfl 1 (by decide) fl_X0_15 (fun _ h => h) rfl dX0_setHole_15 ?_
      refine lv_lload hx hb dX0_setHole_18 (lv_at hl 0 rfl) ?_
      refine lv_lor hx hb dX0_setHole_20 ?_
      refine lv_goto (tgt := 35) hx hb dX0_setHole_21 (by decide) ?_
      refine g_put (q0 := 0) (W2 := (h, .inr (1, [.long f, .long (b ||| ((1 : Int64) <<< ((nI k).toInt64 &&& 63))), .int (nI v)])) :: R) C0 G ft_X0 in_X0 rfl rfl 1 (by decide) fl_X0_15 (fun _ h => h) rfl rfl rfl (Nat.le_of_ble_eq_true rfl) rfl dX0_setHole_35 (fun H locs G => ?_)
      refine lv_goto (tgt := 70) hx hb dX0_setHole_38 (by decide) ?_
      exact g_vret C0 G ⟨by first | rfl | (exfalso; omega) | (simp only [shF, shB, shW, bitM, c_6, c_11, Bool.false_eq_true, ↓reduceIte, eq_self, decide_true, decide_false, not_true_eq_false, not_false_eq_true, Bool.true_and, Bool.false_and, Bool.and_true, Bool.and_false]; done) | (simp [shF, shB, shW, bitM, c_6, c_11]; done) | (simp [shF, shB, shW, bitM, c_6, c_11]; rfl) | (simp [shF, shB, shW, bitM, c_6, c_11]; omega), by first | rfl | (exfalso; omega) | (simp only [shF, shB, shW, bitM, c_6, c_11, Bool.false_eq_true, ↓reduceIte, eq_self, decide_true, decide_false, not_true_eq_false, not_false_eq_true, Bool.true_and, Bool.false_and, Bool.and_true, Bool.and_false]; done) | (simp [shF, shB, shW, bitM, c_6, c_11]; done) | (simp [shF, shB, shW, bitM, c_6, c_11]; rfl) | (simp [shF, shB, shW, bitM, c_6, c_11]; omega)⟩ dX0_setHole_70

set_option maxHeartbeats 4000000 in
set_option maxRecDepth 100000 in
theorem c_X0_punchBit (l : Launch) (D : va_G) (cy : Nat → ClassId) (R : va_W) (h : Nat) (f : Int64) (b : Int64) (v : Nat) (row : Nat) (col : Nat) (bit : Nat) (h1 : 8 * row + col < 64) (h2 : bit < 2) : GE l D (gts cy) yX0_punchBit cX0_punchBit 4 none 1 0 0 [.ref h, .int (nI row), .int (nI col), .int (nI bit)] ((h, .inr (1, [.long f, .long b, .int (nI v)])) :: R) (gF none ((h, .inr (1, [.long (pbF f (8 * row + col) bit), .long (pbB b (8 * row + col) bit), .int (nI v)])) :: R)) := by
  refine g_intro (by decide +kernel) (lv := [(0, .ref h), (1, .int (nI row)), (2, .int (nI col)), (3, .int (nI bit))]) rfl (Nat.le_of_ble_eq_true rfl) ?_
  intro p e s m below meth c C0 G ls hl
  have hx := C0.1
  have hb := C0.2.1
  have hown := C0.2.2.2.2.2.1
  have hts := C0.2.2.2.2.2.2.1
  refine lv_aload_n hx hb dX0_punchBit_0 rfl (lv_at hl 0 rfl) ?_
  refine lv_iload_n hx hb dX0_punchBit_1 rfl (lv_at hl 3 rfl) ?_
  refine lv_if_ne (tgt := 9) hx hb dX0_punchBit_2 (by decide) (fun c_2 => ?_) (fun c_2 => ?_)
  · skip
    have c_2 : ¬ (bit = 0) := fun h => c_2 ((nI_eq (a := bit) (b := 0) (by omega) (by omega)).mpr h)
    refine lv_iconst (v := 0) hx hb dX0_punchBit_9 (by decide) ?_
    refine lv_iload_n hx hb dX0_punchBit_10 rfl (lv_at hl 1 rfl) ?_
    refine lv_iload_n hx hb dX0_punchBit_11 rfl (lv_at hl 2 rfl) ?_
    refine g_callSN (As := [.int (nI row), .int (nI col)]) (rest := [.int 0, .ref h]) C0 G (c_X4_cellNumber l D cy (W1 := (h, .inr (1, [.long f, .long b, .int (nI v)])) :: R) (row := row) (col := col) ) k_X4_cellNumber nm_X0_35 dX0_punchBit_12 rfl rfl hl.1 (Nat.le_of_ble_eq_true rfl) ⟨Nat.le_of_ble_eq_true rfl, Nat.le_of_ble_eq_true rfl⟩ ⟨Nat.le_of_ble_eq_true rfl, Nat.le_of_ble_eq_true rfl⟩ (fun r W2 H locs hp G => ?_)
    obtain ⟨rfl, hw⟩ := hp
    have G := g_wc hw G
    refine W.eq (g2 := F0 m 15 ls [.int (nI (8 * row + col)), .int 0, .ref h]) rfl ?_
    refine lv_iconst (v := 1) hx hb dX0_punchBit_15 (by decide) ?_
    refine g_callV (As := [.int 0, .int (nI (8 * row + col)), .int 1]) (rest := []) (q0 := 0) C0 G (c_X0_setHole l D cy (R := R) (h := h) (f := f) (b := b) (v := v) (ib := false) (k := 8 * row + col) (ho := true) (by omega)) k_X0_setHole ml_X0_39 rfl rfl dX0_punchBit_16 rfl rfl hl.1 (Nat.le_of_ble_eq_true rfl) ⟨Nat.le_of_ble_eq_true rfl, Nat.le_of_ble_eq_true rfl⟩ ⟨Nat.le_of_ble_eq_true rfl, Nat.le_of_ble_eq_true rfl⟩ (fun r W2 H locs hp G => ?_)
    obtain ⟨rfl, hw⟩ := hp
    have G := g_wc hw G
    refine W.eq (g2 := F0 m 19 ls []) rfl ?_
    exact g_vret C0 G ⟨by first | rfl | (exfalso; omega) | (simp only [pbF, pbB, shF, shB, shW, c_2, Bool.false_eq_true, ↓reduceIte, eq_self, decide_true, decide_false, not_true_eq_false, not_false_eq_true, Bool.true_and, Bool.false_and, Bool.and_true, Bool.and_false]; done) | (simp [pbF, pbB, shF, shB, shW, c_2]; done) | (simp [pbF, pbB, shF, shB, shW, c_2]; rfl) | (simp [pbF, pbB, shF, shB, shW, c_2]; omega), by first | rfl | (exfalso; omega) | (simp only [pbF, pbB, shF, shB, shW, c_2, Bool.false_eq_true, ↓reduceIte, eq_self, decide_true, decide_false, not_true_eq_false, not_false_eq_true, Bool.true_and, Bool.false_and, Bool.and_true, Bool.and_false]; done) | (simp [pbF, pbB, shF, shB, shW, c_2]; done) | (simp [pbF, pbB, shF, shB, shW, c_2]; rfl) | (simp [pbF, pbB, shF, shB, shW, c_2]; omega)⟩ dX0_punchBit_19
  · skip
    have c_2 : bit = 0 := (nI_eq (a := bit) (b := 0) (by omega) (by omega)).mp c_2
    refine lv_iconst (v := 1) hx hb dX0_punchBit_5 (by decide) ?_
    refine lv_goto (tgt := 10) hx hb dX0_punchBit_6 (by decide) ?_
    refine lv_iload_n hx hb dX0_punchBit_10 rfl (lv_at hl 1 rfl) ?_
    refine lv_iload_n hx hb dX0_punchBit_11 rfl (lv_at hl 2 rfl) ?_
    refine g_callSN (As := [.int (nI row), .int (nI col)]) (rest := [.int 1, .ref h]) C0 G (c_X4_cellNumber l D cy (W1 := (h, .inr (1, [.long f, .long b, .int (nI v)])) :: R) (row := row) (col := col) ) k_X4_cellNumber nm_X0_35 dX0_punchBit_12 rfl rfl hl.1 (Nat.le_of_ble_eq_true rfl) ⟨Nat.le_of_ble_eq_true rfl, Nat.le_of_ble_eq_true rfl⟩ ⟨Nat.le_of_ble_eq_true rfl, Nat.le_of_ble_eq_true rfl⟩ (fun r W2 H locs hp G => ?_)
    obtain ⟨rfl, hw⟩ := hp
    have G := g_wc hw G
    refine W.eq (g2 := F0 m 15 ls [.int (nI (8 * row + col)), .int 1, .ref h]) rfl ?_
    refine lv_iconst (v := 1) hx hb dX0_punchBit_15 (by decide) ?_
    refine g_callV (As := [.int 1, .int (nI (8 * row + col)), .int 1]) (rest := []) (q0 := 0) C0 G (c_X0_setHole l D cy (R := R) (h := h) (f := f) (b := b) (v := v) (ib := true) (k := 8 * row + col) (ho := true) (by omega)) k_X0_setHole ml_X0_39 rfl rfl dX0_punchBit_16 rfl rfl hl.1 (Nat.le_of_ble_eq_true rfl) ⟨Nat.le_of_ble_eq_true rfl, Nat.le_of_ble_eq_true rfl⟩ ⟨Nat.le_of_ble_eq_true rfl, Nat.le_of_ble_eq_true rfl⟩ (fun r W2 H locs hp G => ?_)
    obtain ⟨rfl, hw⟩ := hp
    have G := g_wc hw G
    refine W.eq (g2 := F0 m 19 ls []) rfl ?_
    exact g_vret C0 G ⟨by first | rfl | (exfalso; omega) | (simp only [pbF, pbB, shF, shB, shW, c_2, Bool.false_eq_true, ↓reduceIte, eq_self, decide_true, decide_false, not_true_eq_false, not_false_eq_true, Bool.true_and, Bool.false_and, Bool.and_true, Bool.and_false]; done) | (simp [pbF, pbB, shF, shB, shW, c_2]; done) | (simp [pbF, pbB, shF, shB, shW, c_2]; rfl) | (simp [pbF, pbB, shF, shB, shW, c_2]; omega), by first | rfl | (exfalso; omega) | (simp only [pbF, pbB, shF, shB, shW, c_2, Bool.false_eq_true, ↓reduceIte, eq_self, decide_true, decide_false, not_true_eq_false, not_false_eq_true, Bool.true_and, Bool.false_and, Bool.and_true, Bool.and_false]; done) | (simp [pbF, pbB, shF, shB, shW, c_2]; done) | (simp [pbF, pbB, shF, shB, shW, c_2]; rfl) | (simp [pbF, pbB, shF, shB, shW, c_2]; omega)⟩ dX0_punchBit_19

set_option maxHeartbeats 4000000 in
set_option maxRecDepth 100000 in
theorem c_X0_canPunch (l : Launch) (D : va_G) (cy : Nat → ClassId) (R : va_W) (h : Nat) (f : Int64) (b : Int64) (v : Nat) (row : Nat) (h1 : row < 8) : GE l D (gts cy) yX0_canPunch cX0_canPunch 2 (some .boolean) 1 0 0 [.ref h, .int (nI row)] ((h, .inr (1, [.long f, .long b, .int (nI v)])) :: R) (gF (some (.int (bI (cpB f b row)))) ((h, .inr (1, [.long f, .long b, .int (nI v)])) :: R)) := by
  refine g_intro (by decide +kernel) (lv := [(0, .ref h), (1, .int (nI row))]) rfl (Nat.le_of_ble_eq_true rfl) ?_
  intro p e s m below meth c C0 G ls hl
  have hx := C0.1
  have hb := C0.2.1
  have hown := C0.2.2.2.2.2.1
  have hts := C0.2.2.2.2.2.2.1
  refine lv_iload_n hx hb dX0_canPunch_0 rfl (lv_at hl 1 rfl) ?_
  refine g_callSN (As := [.int (nI row)]) (rest := []) C0 G (c_X4_rowCells l D cy (W1 := (h, .inr (1, [.long f, .long b, .int (nI v)])) :: R) (r := row) ) k_X4_rowCells nm_X0_43 dX0_canPunch_1 rfl rfl hl.1 (Nat.le_of_ble_eq_true rfl) ⟨Nat.le_of_ble_eq_true rfl, Nat.le_of_ble_eq_true rfl⟩ ⟨Nat.le_of_ble_eq_true rfl, Nat.le_of_ble_eq_true rfl⟩ (fun r W2 H locs hp G => ?_)
  obtain ⟨rfl, hw⟩ := hp
  have G := g_wc hw G
  refine W.eq (g2 := F0 m 4 ls [.long (rowM row)]) rfl ?_
  refine lv_aload_n hx hb dX0_canPunch_4 rfl (lv_at hl 0 rfl) ?_
  refine g_callV (As := []) (rest := [.long (rowM row)]) (q0 := 0) C0 G (c_X0_blank l D cy (R := R) (h := h) (f := f) (b := b) (v := v)  ) k_X0_blank ml_X0_28 rfl rfl dX0_canPunch_5 rfl rfl hl.1 (Nat.le_of_ble_eq_true rfl) ⟨Nat.le_of_ble_eq_true rfl, Nat.le_of_ble_eq_true rfl⟩ ⟨Nat.le_of_ble_eq_true rfl, Nat.le_of_ble_eq_true rfl⟩ (fun r W2 H locs hp G => ?_)
  obtain ⟨rfl, hw⟩ := hp
  have G := g_wc hw G
  refine W.eq (g2 := F0 m 8 ls [.long (blW f b), .long (rowM row)]) rfl ?_
  refine lv_ldc2 (v := (-1)) hx hb hown (hts _ kl_X0_22) dX0_canPunch_8 ?_
  refine lv_lxor hx hb dX0_canPunch_11 ?_
  refine lv_land hx hb dX0_canPunch_12 ?_
  refine lv_lconst (v := 0) hx hb dX0_canPunch_13 (by decide) ?_
  refine W.lcmp hx hb dX0_canPunch_14 ?_
  refine lv_if_ne (tgt := 22) hx hb dX0_canPunch_15 (by decide) (fun c_15 => ?_) (fun c_15 => ?_)
  · skip
    have c_15 : ¬ ((rowM row) &&& ((blW f b) ^^^ ((-1) : Int64))) = (0 : Int64) := fun h => c_15 (lgc_eq.mpr h)
    refine lv_iconst (v := 0) hx hb dX0_canPunch_22 (by decide) ?_
    exact g_zret C0 G rfl ⟨by first | rfl | (exfalso; omega) | (simp only [cpB, bI, c_15, Bool.false_eq_true, ↓reduceIte, eq_self, decide_true, decide_false, not_true_eq_false, not_false_eq_true, Bool.true_and, Bool.false_and, Bool.and_true, Bool.and_false]; done) | (simp [cpB, bI, c_15]; done) | (simp [cpB, bI, c_15]; rfl) | (simp [cpB, bI, c_15]; omega), by first | rfl | (exfalso; omega) | (simp only [cpB, bI, c_15, Bool.false_eq_true, ↓reduceIte, eq_self, decide_true, decide_false, not_true_eq_false, not_false_eq_true, Bool.true_and, Bool.false_and, Bool.and_true, Bool.and_false]; done) | (simp [cpB, bI, c_15]; done) | (simp [cpB, bI, c_15]; rfl) | (simp [cpB, bI, c_15]; omega)⟩ dX0_canPunch_23
  · skip
    have c_15 : ((rowM row) &&& ((blW f b) ^^^ ((-1) : Int64))) = (0 : Int64) := lgc_eq.mp c_15
    refine lv_iconst (v := 1) hx hb dX0_canPunch_18 (by decide) ?_
    refine lv_goto (tgt := 23) hx hb dX0_canPunch_19 (by decide) ?_
    exact g_zret C0 G rfl ⟨by first | rfl | (exfalso; omega) | (simp only [cpB, bI, c_15, Bool.false_eq_true, ↓reduceIte, eq_self, decide_true, decide_false, not_true_eq_false, not_false_eq_true, Bool.true_and, Bool.false_and, Bool.and_true, Bool.and_false]; done) | (simp [cpB, bI, c_15]; done) | (simp [cpB, bI, c_15]; rfl) | (simp [cpB, bI, c_15]; omega), by first | rfl | (exfalso; omega) | (simp only [cpB, bI, c_15, Bool.false_eq_true, ↓reduceIte, eq_self, decide_true, decide_false, not_true_eq_false, not_false_eq_true, Bool.true_and, Bool.false_and, Bool.and_true, Bool.and_false]; done) | (simp [cpB, bI, c_15]; done) | (simp [cpB, bI, c_15]; rfl) | (simp [cpB, bI, c_15]; omega)⟩ dX0_canPunch_23
