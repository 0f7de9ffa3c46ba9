set_option maxHeartbeats 4000000 in
set_option maxRecDepth 100000 in
theorem c_X2_digitUpTo (l : Launch) (D : va_G) (cy : Nat → ClassId) (W1 : va_W) (most : Nat) (ch : Nat) (h1 : most < 10) (h2 : ch < 65536) : GE l D (gts cy) yX2_digitUpTo cX2_digitUpTo 3 (some .int) 0 0 0 [.int (nI most), .int (nI ch)] (W1) (gF (some (.int (dgI most ch))) (W1)) := by
  refine g_intro (by decide +kernel) (lv := [(0, .int (nI most)), (1, .int (nI ch))]) rfl (Nat.le_of_ble_eq_true rfl) ?_
  intro p e s m below meth c C0 G ls hl
  have hx := C0.1
  have hb := C0.2.1
  have hown := C0.2.2.2.2.2.1
  have hts := C0.2.2.2.2.2.2.1
  refine lv_iload_n hx hb dX2_digitUpTo_0 rfl (lv_at hl 1 rfl) ?_
  refine lv_bipush (v := 48) hx hb dX2_digitUpTo_1 (by decide) ?_
  refine lv_isub hx hb dX2_digitUpTo_3 ?_
  refine g_topi (x' := nI ch - 48) rfl ?_
  refine lv_istore_n (lv' := [(2, .int (nI ch - 48)), (0, .int (nI most)), (1, .int (nI ch))]) hx hb dX2_digitUpTo_4 rfl hl (by decide) rfl (fun ls hl => ?_)
  refine lv_iload_n hx hb dX2_digitUpTo_5 rfl (lv_at hl 0 rfl) ?_
  refine lv_if_lt (tgt := 18) hx hb dX2_digitUpTo_6 (by decide) (fun c_6 => ?_) (fun c_6 => ?_)
  · skip
    refine lv_iconst (v := (-1)) hx hb dX2_digitUpTo_18 (by decide) ?_
    exact g_iret C0 G ⟨by first | (have c_6 := dg_lt (by omega) c_6; rw [show dgI most ch = -1 from by simp [dgI, dgOk]; omega]) | (rw [show dgI most ch = -1 from by simp [dgI, dgOk]; omega]) | (rw [dgI_e (show dgOk most ch = true from by simp [dgOk]; omega)]), by first | rfl | (exfalso; omega) | (simp only [c_6, Bool.false_eq_true, ↓reduceIte, eq_self, decide_true, decide_false, not_true_eq_false, not_false_eq_true, Bool.true_and, Bool.false_and, Bool.and_true, Bool.and_false]; done) | (simp [c_6]; done) | (simp [c_6]; rfl) | (simp [c_6]; omega)⟩ dX2_digitUpTo_19
  · skip
    have c_6 : 48 ≤ ch := dg_ge (by omega) c_6
    rw [show nI ch - 48 = nI (ch - 48) from pk_sub c_6] at hl
    refine lv_iload_n hx hb dX2_digitUpTo_9 rfl (lv_at hl 0 rfl) ?_
    refine lv_iload_n hx hb dX2_digitUpTo_10 rfl (lv_at hl 1 rfl) ?_
    refine lv_icmp_gt (tgt := 18) hx hb dX2_digitUpTo_11 (by decide) (fun c_11 => ?_) (fun c_11 => ?_)
    · skip
      have c_11 : most < (ch - 48) := (nI_ltI (a := most) (b := ch - 48) (by omega) (by omega)).mp c_11
      refine lv_iconst (v := (-1)) hx hb dX2_digitUpTo_18 (by decide) ?_
      exact g_iret C0 G ⟨by first | (have c_6 := dg_lt (by omega) c_6; rw [show dgI most ch = -1 from by simp [dgI, dgOk]; omega]) | (rw [show dgI most ch = -1 from by simp [dgI, dgOk]; omega]) | (rw [dgI_e (show dgOk most ch = true from by simp [dgOk]; omega)]), by first | rfl | (exfalso; omega) | (simp only [c_6, c_11, Bool.false_eq_true, ↓reduceIte, eq_self, decide_true, decide_false, not_true_eq_false, not_false_eq_true, Bool.true_and, Bool.false_and, Bool.and_true, Bool.and_false]; done) | (simp [c_6, c_11]; done) | (simp [c_6, c_11]; rfl) | (simp [c_6, c_11]; omega)⟩ dX2_digitUpTo_19
    · skip
      have c_11 : ¬ (most < (ch - 48)) := fun h => c_11 ((nI_ltI (a := most) (b := ch - 48) (by omega) (by omega)).mpr h)
      refine lv_iload_n hx hb dX2_digitUpTo_14 rfl (lv_at hl 0 rfl) ?_
      refine lv_goto (tgt := 19) hx hb dX2_digitUpTo_15 (by decide) ?_
      exact g_iret C0 G ⟨by first | (have c_6 := dg_lt (by omega) c_6; rw [show dgI most ch = -1 from by simp [dgI, dgOk]; omega]) | (rw [show dgI most ch = -1 from by simp [dgI, dgOk]; omega]) | (rw [dgI_e (show dgOk most ch = true from by simp [dgOk]; omega)]), by first | rfl | (exfalso; omega) | (simp only [c_6, c_11, Bool.false_eq_true, ↓reduceIte, eq_self, decide_true, decide_false, not_true_eq_false, not_false_eq_true, Bool.true_and, Bool.false_and, Bool.and_true, Bool.and_false]; done) | (simp [c_6, c_11]; done) | (simp [c_6, c_11]; rfl) | (simp [c_6, c_11]; omega)⟩ dX2_digitUpTo_19

set_option maxHeartbeats 4000000 in
set_option maxRecDepth 100000 in
theorem c_X2_begin (l : Launch) (D : va_G) (cy : Nat → ClassId) (R : va_W) (h : Nat) (sp : Nat) (lt : Nat) (ib : Bool) (rw : Nat) (cl : Nat) (nu : Nat)   : GE l D (gts cy) yX2_begin cX2_begin 1 none 0 0 0 [.ref h] ((h, .inr (6, [.int (nI sp), .int (nI lt), .int (bI ib), .int (nI rw), .int (nI cl), .int (nI nu)])) :: R) (gF none ((h, .inr (6, [.int (nI 0), .int (nI lt), .int (bI ib), .int (nI rw), .int (nI cl), .int (nI nu)])) :: R)) := by
  refine g_intro (by decide +kernel) (lv := [(0, .ref h)]) rfl (Nat.le_of_ble_eq_true rfl) ?_
  intro p e s m below meth c C0 G ls hl
  have hx := C0.1
  have hb := C0.2.1
  have hown := C0.2.2.2.2.2.1
  have hts := C0.2.2.2.2.2.2.1
  refine lv_aload_n hx hb dX2_begin_0 rfl (lv_at hl 0 rfl) ?_
  refine lv_iconst (v := 0) hx hb dX2_begin_1 (by decide) ?_
  refine g_put (q0 := 0) (W2 := (h, .inr (6, [.int 0, .int (nI lt), .int (bI ib), .int (nI rw), .int (nI cl), .int (nI nu)])) :: R) C0 G ft_X2 in_X2 rfl rfl 0 (by decide) fl_X2_11 (fun _ h => h) rfl rfl rfl (Nat.le_of_ble_eq_true rfl) rfl dX2_begin_2 (fun H locs G => ?_)
  exact g_vret C0 G ⟨by first | rfl | (exfalso; omega) | (simp only [Bool.false_eq_true, ↓reduceIte, eq_self, decide_true, decide_false, not_true_eq_false, not_false_eq_true, Bool.true_and, Bool.false_and, Bool.and_true, Bool.and_false]; done) | (simp []; done) | (simp []; rfl) | (simp []; omega), by first | rfl | (exfalso; omega) | (simp only [Bool.false_eq_true, ↓reduceIte, eq_self, decide_true, decide_false, not_true_eq_false, not_false_eq_true, Bool.true_and, Bool.false_and, Bool.and_true, Bool.and_false]; done) | (simp []; done) | (simp []; rfl) | (simp []; omega)⟩ dX2_begin_5

set_option maxHeartbeats 4000000 in
set_option maxRecDepth 100000 in
theorem c_X2_isPartWhole (l : Launch) (D : va_G) (cy : Nat → ClassId) (R : va_W) (h : Nat) (sp : Nat) (lt : Nat) (ib : Bool) (rw : Nat) (cl : Nat) (nu : Nat)  (h1 : sp < 9) : GE l D (gts cy) yX2_isPartWhole cX2_isPartWhole 1 (some .boolean) 0 0 0 [.ref h] ((h, .inr (6, [.int (nI sp), .int (nI lt), .int (bI ib), .int (nI rw), .int (nI cl), .int (nI nu)])) :: R) (gF (some (.int (bI (decide (sp = 6) || decide (sp = 8))))) ((h, .inr (6, [.int (nI sp), .int (nI lt), .int (bI ib), .int (nI rw), .int (nI cl), .int (nI nu)])) :: R)) := by
  refine g_intro (by decide +kernel) (lv := [(0, .ref h)]) rfl (Nat.le_of_ble_eq_true rfl) ?_
  intro p e s m below meth c C0 G ls hl
  have hx := C0.1
  have hb := C0.2.1
  have hown := C0.2.2.2.2.2.1
  have hts := C0.2.2.2.2.2.2.1
  refine lv_aload_n hx hb dX2_isPartWhole_0 rfl (lv_at hl 0 rfl) ?_
  refine g_get (q0 := 0) (v := .int (nI sp)) C0 G in_X2 rfl rfl 0 (by decide) fl_X2_11 (fun _ h => h) rfl dX2_isPartWhole_1 ?_
  refine lv_bipush (v := 6) hx hb dX2_isPartWhole_4 (by decide) ?_
  refine lv_icmp_eq (tgt := 18) hx hb dX2_isPartWhole_6 (by decide) (fun c_6 => ?_) (fun c_6 => ?_)
  · skip
    have c_6 : sp = 6 := (nI_eq (a := sp) (b := 6) (by omega) (by omega)).mp c_6
    refine lv_iconst (v := 1) hx hb dX2_isPartWhole_18 (by decide) ?_
    refine lv_goto (tgt := 23) hx hb dX2_isPartWhole_19 (by decide) ?_
    exact g_zret C0 G rfl ⟨by first | rfl | (exfalso; omega) | (simp only [bI, c_6, Bool.false_eq_true, ↓reduceIte, eq_self, decide_true, decide_false, not_true_eq_false, not_false_eq_true, Bool.true_and, Bool.false_and, Bool.and_true, Bool.and_false]; done) | (simp [bI, c_6]; done) | (simp [bI, c_6]; rfl) | (simp [bI, c_6]; omega), by first | rfl | (exfalso; omega) | (simp only [bI, c_6, Bool.false_eq_true, ↓reduceIte, eq_self, decide_true, decide_false, not_true_eq_false, not_false_eq_true, Bool.true_and, Bool.false_and, Bool.and_true, Bool.and_false]; done) | (simp [bI, c_6]; done) | (simp [bI, c_6]; rfl) | (simp [bI, c_6]; omega)⟩ dX2_isPartWhole_23
  · skip
    have c_6 : ¬ (sp = 6) := fun h => c_6 ((nI_eq (a := sp) (b := 6) (by omega) (by omega)).mpr h)
    refine lv_aload_n hx hb dX2_isPartWhole_9 rfl (lv_at hl 0 rfl) ?_
    refine g_get (q0 := 0) (v := .int (nI sp)) C0 G in_X2 rfl rfl 0 (by decide) fl_X2_11 (fun _ h => h) rfl dX2_isPartWhole_10 ?_
    refine lv_bipush (v := 8) hx hb dX2_isPartWhole_13 (by decide) ?_
    refine lv_icmp_ne (tgt := 22) hx hb dX2_isPartWhole_15 (by decide) (fun c_15 => ?_) (fun c_15 => ?_)
    · skip
      have c_15 : ¬ (sp = 8) := fun h => c_15 ((nI_eq (a := sp) (b := 8) (by omega) (by omega)).mpr h)
      refine lv_iconst (v := 0) hx hb dX2_isPartWhole_22 (by decide) ?_
      exact g_zret C0 G rfl ⟨by first | rfl | (exfalso; omega) | (simp only [bI, c_6, c_15, Bool.false_eq_true, ↓reduceIte, eq_self, decide_true, decide_false, not_true_eq_false, not_false_eq_true, Bool.true_and, Bool.false_and, Bool.and_true, Bool.and_false]; done) | (simp [bI, c_6, c_15]; done) | (simp [bI, c_6, c_15]; rfl) | (simp [bI, c_6, c_15]; omega), by first | rfl | (exfalso; omega) | (simp only [bI, c_6, c_15, Bool.false_eq_true, ↓reduceIte, eq_self, decide_true, decide_false, not_true_eq_false, not_false_eq_true, Bool.true_and, Bool.false_and, Bool.and_true, Bool.and_false]; done) | (simp [bI, c_6, c_15]; done) | (simp [bI, c_6, c_15]; rfl) | (simp [bI, c_6, c_15]; omega)⟩ dX2_isPartWhole_23
    · skip
      have c_15 : sp = 8 := (nI_eq (a := sp) (b := 8) (by omega) (by omega)).mp c_15
      refine lv_iconst (v := 1) hx hb dX2_isPartWhole_18 (by decide) ?_
      refine lv_goto (tgt := 23) hx hb dX2_isPartWhole_19 (by decide) ?_
      exact g_zret C0 G rfl ⟨by first | rfl | (exfalso; omega) | (simp only [bI, c_6, c_15, Bool.false_eq_true, ↓reduceIte, eq_self, decide_true, decide_false, not_true_eq_false, not_false_eq_true, Bool.true_and, Bool.false_and, Bool.and_true, Bool.and_false]; done) | (simp [bI, c_6, c_15]; done) | (simp [bI, c_6, c_15]; rfl) | (simp [bI, c_6, c_15]; omega), by first | rfl | (exfalso; omega) | (simp only [bI, c_6, c_15, Bool.false_eq_true, ↓reduceIte, eq_self, decide_true, decide_false, not_true_eq_false, not_false_eq_true, Bool.true_and, Bool.false_and, Bool.and_true, Bool.and_false]; done) | (simp [bI, c_6, c_15]; done) | (simp [bI, c_6, c_15]; rfl) | (simp [bI, c_6, c_15]; omega)⟩ dX2_isPartWhole_23

set_option maxHeartbeats 4000000 in
set_option maxRecDepth 100000 in
theorem c_X2_takesLetter (l : Launch) (D : va_G) (cy : Nat → ClassId) (R : va_W) (h : Nat) (sp : Nat) (lt : Nat) (ib : Bool) (rw : Nat) (cl : Nat) (nu : Nat) (ch : Nat) (h1 : ch < 65536) : GE l D (gts cy) yX2_takesLetter cX2_takesLetter 2 (some .boolean) 0 0 0 [.ref h, .int (nI ch)] ((h, .inr (6, [.int (nI sp), .int (nI lt), .int (bI ib), .int (nI rw), .int (nI cl), .int (nI nu)])) :: R) (gF (some (.int (bI (ltOk ch)))) ((h, .inr (6, [.int (nI (ltSp ch sp)), .int (nI ch), .int (bI ib), .int (nI rw), .int (nI cl), .int (nI nu)])) :: R)) := by
  refine g_intro (by decide +kernel) (lv := [(0, .ref h), (1, .int (nI ch))]) rfl (Nat.le_of_ble_eq_true rfl) ?_
  intro p e s m below meth c C0 G ls hl
  have hx := C0.1
  have hb := C0.2.1
  have hown := C0.2.2.2.2.2.1
  have hts := C0.2.2.2.2.2.2.1
  refine lv_aload_n hx hb dX2_takesLetter_0 rfl (lv_at hl 0 rfl) ?_
  refine lv_iload_n hx hb dX2_takesLetter_1 rfl (lv_at hl 1 rfl) ?_
  refine g_put (q0 := 0) (W2 := (h, .inr (6, [.int (nI sp), .int (nI ch), .int (bI ib), .int (nI rw), .int (nI cl), .int (nI nu)])) :: R) C0 G ft_X2 in_X2 rfl rfl 1 (by decide) fl_X2_39 (fun _ h => h) rfl (pk_charN (by omega)).1 (pk_charN (by omega)).2 (Nat.le_of_ble_eq_true rfl) rfl dX2_takesLetter_2 (fun H locs G => ?_)
  refine lv_iload_n hx hb dX2_takesLetter_5 rfl (lv_at hl 1 rfl) ?_
  by_cases s_6_99 : ch = 99
  · skip
    refine lv_lookup (off := 57) (tgt := 63) hx hb dX2_takesLetter_6 (by decide) (by rw [s_6_99]; decide) (by decide) ?_
    refine lv_aload_n hx hb dX2_takesLetter_63 rfl (lv_at hl 0 rfl) ?_
    refine lv_bipush (v := 8) hx hb dX2_takesLetter_64 (by decide) ?_
    refine g_put (q0 := 0) (W2 := (h, .inr (6, [.int 8, .int (nI ch), .int (bI ib), .int (nI rw), .int (nI cl), .int (nI nu)])) :: R) C0 G ft_X2 in_X2 rfl rfl 0 (by decide) fl_X2_11 (fun _ h => h) rfl rfl rfl (Nat.le_of_ble_eq_true rfl) rfl dX2_takesLetter_66 (fun H locs G => ?_)
    refine lv_iconst (v := 1) hx hb dX2_takesLetter_69 (by decide) ?_
    exact g_zret C0 G rfl ⟨by first | rfl | (exfalso; omega) | (simp only [ltOk, ltSp, bI, s_6_99, Bool.false_eq_true, ↓reduceIte, eq_self, decide_true, decide_false, not_true_eq_false, not_false_eq_true, Bool.true_and, Bool.false_and, Bool.and_true, Bool.and_false]; done) | (simp [ltOk, ltSp, bI, s_6_99]; done) | (simp [ltOk, ltSp, bI, s_6_99]; rfl) | (simp [ltOk, ltSp, bI, s_6_99]; omega), by first | rfl | (exfalso; omega) | (simp only [ltOk, ltSp, bI, s_6_99, Bool.false_eq_true, ↓reduceIte, eq_self, decide_true, decide_false, not_true_eq_false, not_false_eq_true, Bool.true_and, Bool.false_and, Bool.and_true, Bool.and_false]; done) | (simp [ltOk, ltSp, bI, s_6_99]; done) | (simp [ltOk, ltSp, bI, s_6_99]; rfl) | (simp [ltOk, ltSp, bI, s_6_99]; omega)⟩ dX2_takesLetter_70
  by_cases s_6_112 : ch = 112
  · skip
    refine lv_lookup (off := 50) (tgt := 56) hx hb dX2_takesLetter_6 (by decide) (by rw [s_6_112]; decide) (by decide) ?_
    refine lv_aload_n hx hb dX2_takesLetter_56 rfl (lv_at hl 0 rfl) ?_
    refine lv_iconst (v := 2) hx hb dX2_takesLetter_57 (by decide) ?_
    refine g_put (q0 := 0) (W2 := (h, .inr (6, [.int 2, .int (nI ch), .int (bI ib), .int (nI rw), .int (nI cl), .int (nI nu)])) :: R) C0 G ft_X2 in_X2 rfl rfl 0 (by decide) fl_X2_11 (fun _ h => h) rfl rfl rfl (Nat.le_of_ble_eq_true rfl) rfl dX2_takesLetter_58 (fun H locs G => ?_)
    refine lv_iconst (v := 1) hx hb dX2_takesLetter_61 (by decide) ?_
    exact g_zret C0 G rfl ⟨by first | rfl | (exfalso; omega) | (simp only [ltOk, ltSp, bI, s_6_99, s_6_112, Bool.false_eq_true, ↓reduceIte, eq_self, decide_true, decide_false, not_true_eq_false, not_false_eq_true, Bool.true_and, Bool.false_and, Bool.and_true, Bool.and_false]; done) | (simp [ltOk, ltSp, bI, s_6_99, s_6_112]; done) | (simp [ltOk, ltSp, bI, s_6_99, s_6_112]; rfl) | (simp [ltOk, ltSp, bI, s_6_99, s_6_112]; omega), by first | rfl | (exfalso; omega) | (simp only [ltOk, ltSp, bI, s_6_99, s_6_112, Bool.false_eq_true, ↓reduceIte, eq_self, decide_true, decide_false, not_true_eq_false, not_false_eq_true, Bool.true_and, Bool.false_and, Bool.and_true, Bool.and_false]; done) | (simp [ltOk, ltSp, bI, s_6_99, s_6_112]; done) | (simp [ltOk, ltSp, bI, s_6_99, s_6_112]; rfl) | (simp [ltOk, ltSp, bI, s_6_99, s_6_112]; omega)⟩ dX2_takesLetter_62
  by_cases s_6_118 : ch = 118
  · skip
    refine lv_lookup (off := 72) (tgt := 78) hx hb dX2_takesLetter_6 (by decide) (by rw [s_6_118]; decide) (by decide) ?_
    refine lv_aload_n hx hb dX2_takesLetter_78 rfl (lv_at hl 0 rfl) ?_
    refine lv_bipush (v := 7) hx hb dX2_takesLetter_79 (by decide) ?_
    refine g_put (q0 := 0) (W2 := (h, .inr (6, [.int 7, .int (nI ch), .int (bI ib), .int (nI rw), .int (nI cl), .int (nI nu)])) :: R) C0 G ft_X2 in_X2 rfl rfl 0 (by decide) fl_X2_11 (fun _ h => h) rfl rfl rfl (Nat.le_of_ble_eq_true rfl) rfl dX2_takesLetter_81 (fun H locs G => ?_)
    refine lv_iconst (v := 1) hx hb dX2_takesLetter_84 (by decide) ?_
    exact g_zret C0 G rfl ⟨by first | rfl | (exfalso; omega) | (simp only [ltOk, ltSp, bI, s_6_99, s_6_112, s_6_118, Bool.false_eq_true, ↓reduceIte, eq_self, decide_true, decide_false, not_true_eq_false, not_false_eq_true, Bool.true_and, Bool.false_and, Bool.and_true, Bool.and_false]; done) | (simp [ltOk, ltSp, bI, s_6_99, s_6_112, s_6_118]; done) | (simp [ltOk, ltSp, bI, s_6_99, s_6_112, s_6_118]; rfl) | (simp [ltOk, ltSp, bI, s_6_99, s_6_112, s_6_118]; omega), by first | rfl | (exfalso; omega) | (simp only [ltOk, ltSp, bI, s_6_99, s_6_112, s_6_118, Bool.false_eq_true, ↓reduceIte, eq_self, decide_true, decide_false, not_true_eq_false, not_false_eq_true, Bool.true_and, Bool.false_and, Bool.and_true, Bool.and_false]; done) | (simp [ltOk, ltSp, bI, s_6_99, s_6_112, s_6_118]; done) | (simp [ltOk, ltSp, bI, s_6_99, s_6_112, s_6_118]; rfl) | (simp [ltOk, ltSp, bI, s_6_99, s_6_112, s_6_118]; omega)⟩ dX2_takesLetter_85
  by_cases s_6_119 : ch = 119
  · skip
    refine lv_lookup (off := 65) (tgt := 71) hx hb dX2_takesLetter_6 (by decide) (by rw [s_6_119]; decide) (by decide) ?_
    refine lv_aload_n hx hb dX2_takesLetter_71 rfl (lv_at hl 0 rfl) ?_
    refine lv_iconst (v := 1) hx hb dX2_takesLetter_72 (by decide) ?_
    refine g_put (q0 := 0) (W2 := (h, .inr (6, [.int 1, .int (nI ch), .int (bI ib), .int (nI rw), .int (nI cl), .int (nI nu)])) :: R) C0 G ft_X2 in_X2 rfl rfl 0 (by decide) fl_X2_11 (fun _ h => h) rfl rfl rfl (Nat.le_of_ble_eq_true rfl) rfl dX2_takesLetter_73 (fun H locs G => ?_)
    refine lv_iconst (v := 1) hx hb dX2_takesLetter_76 (by decide) ?_
    exact g_zret C0 G rfl ⟨by first | rfl | (exfalso; omega) | (simp only [ltOk, ltSp, bI, s_6_99, s_6_112, s_6_118, s_6_119, Bool.false_eq_true, ↓reduceIte, eq_self, decide_true, decide_false, not_true_eq_false, not_false_eq_true, Bool.true_and, Bool.false_and, Bool.and_true, Bool.and_false]; done) | (simp [ltOk, ltSp, bI, s_6_99, s_6_112, s_6_118, s_6_119]; done) | (simp [ltOk, ltSp, bI, s_6_99, s_6_112, s_6_118, s_6_119]; rfl) | (simp [ltOk, ltSp, bI, s_6_99, s_6_112, s_6_118, s_6_119]; omega), by first | rfl | (exfalso; omega) | (simp only [ltOk, ltSp, bI, s_6_99, s_6_112, s_6_118, s_6_119, Bool.false_eq_true, ↓reduceIte, eq_self, decide_true, decide_false, not_true_eq_false, not_false_eq_true, Bool.true_and, Bool.false_and, Bool.and_true, Bool.and_false]; done) | (simp [ltOk, ltSp, bI, s_6_99, s_6_112, s_6_118, s_6_119]; done) | (simp [ltOk, ltSp, bI, s_6_99, s_6_112, s_6_118, s_6_119]; rfl) | (simp [ltOk, ltSp, bI, s_6_99, s_6_112, s_6_118, s_6_119]; omega)⟩ dX2_takesLetter_77
  by_cases s_6_120 : ch = 120
  · skip
    refine lv_lookup (off := 65) (tgt := 71) hx hb dX2_takesLetter_6 (by decide) (by rw [s_6_120]; decide) (by decide) ?_
    refine lv_aload_n hx hb dX2_takesLetter_71 rfl (lv_at hl 0 rfl) ?_
    refine lv_iconst (v := 1) hx hb dX2_takesLetter_72 (by decide) ?_
    refine g_put (q0 := 0) (W2 := (h, .inr (6, [.int 1, .int (nI ch), .int (bI ib), .int (nI rw), .int (nI cl), .int (nI nu)])) :: R) C0 G ft_X2 in_X2 rfl rfl 0 (by decide) fl_X2_11 (fun _ h => h) rfl rfl rfl (Nat.le_of_ble_eq_true rfl) rfl dX2_takesLetter_73 (fun H locs G => ?_)
    refine lv_iconst (v := 1) hx hb dX2_takesLetter_76 (by decide) ?_
    exact g_zret C0 G rfl ⟨by first | rfl | (exfalso; omega) | (simp only [ltOk, ltSp, bI, s_6_99, s_6_112, s_6_118, s_6_119, s_6_120, Bool.false_eq_true, ↓reduceIte, eq_self, decide_true, decide_false, not_true_eq_false, not_false_eq_true, Bool.true_and, Bool.false_and, Bool.and_true, Bool.and_false]; done) | (simp [ltOk, ltSp, bI, s_6_99, s_6_112, s_6_118, s_6_119, s_6_120]; done) | (simp [ltOk, ltSp, bI, s_6_99, s_6_112, s_6_118, s_6_119, s_6_120]; rfl) | (simp [ltOk, ltSp, bI, s_6_99, s_6_112, s_6_118, s_6_119, s_6_120]; omega), by first | rfl | (exfalso; omega) | (simp only [ltOk, ltSp, bI, s_6_99, s_6_112, s_6_118, s_6_119, s_6_120, Bool.false_eq_true, ↓reduceIte, eq_self, decide_true, decide_false, not_true_eq_false, not_false_eq_true, Bool.true_and, Bool.false_and, Bool.and_true, Bool.and_false]; done) | (simp [ltOk, ltSp, bI, s_6_99, s_6_112, s_6_118, s_6_119, s_6_120]; done) | (simp [ltOk, ltSp, bI, s_6_99, s_6_112, s_6_118, s_6_119, s_6_120]; rfl) | (simp [ltOk, ltSp, bI, s_6_99, s_6_112, s_6_118, s_6_119, s_6_120]; omega)⟩ dX2_takesLetter_77
  refine lv_lookup (off := 80) (tgt := 86) hx hb dX2_takesLetter_6 (by decide) (g_lkd (by omega) (by decide) (by simp; omega)) (by decide) ?_
  refine lv_iconst (v := 0) hx hb dX2_takesLetter_86 (by decide) ?_
  exact g_zret C0 G rfl ⟨by first | rfl | (exfalso; omega) | (simp only [ltOk, ltSp, bI, s_6_99, s_6_112, s_6_118, s_6_119, s_6_120, Bool.false_eq_true, ↓reduceIte, eq_self, decide_true, decide_false, not_true_eq_false, not_false_eq_true, Bool.true_and, Bool.false_and, Bool.and_true, Bool.and_false]; done) | (simp [ltOk, ltSp, bI, s_6_99, s_6_112, s_6_118, s_6_119, s_6_120]; done) | (simp [ltOk, ltSp, bI, s_6_99, s_6_112, s_6_118, s_6_119, s_6_120]; rfl) | (simp [ltOk, ltSp, bI, s_6_99, s_6_112, s_6_118, s_6_119, s_6_120]; omega), by first | rfl | (exfalso; omega) | (simp only [ltOk, ltSp, bI, s_6_99, s_6_112, s_6_118, s_6_119, s_6_120, Bool.false_eq_true, ↓reduceIte, eq_self, decide_true, decide_false, not_true_eq_false, not_false_eq_true, Bool.true_and, Bool.false_and, Bool.and_true, Bool.and_false]; done) | (simp [ltOk, ltSp, bI, s_6_99, s_6_112, s_6_118, s_6_119, s_6_120]; done) | (simp [ltOk, ltSp, bI, s_6_99, s_6_112, s_6_118, s_6_119, s_6_120]; rfl) | (simp [ltOk, ltSp, bI, s_6_99, s_6_112, s_6_118, s_6_119, s_6_120]; omega)⟩ dX2_takesLetter_87

set_option maxHeartbeats 4000000 in
set_option maxRecDepth 100000 in
theorem c_X2_takesFace (l : Launch) (D : va_G) (cy : Nat → ClassId) (R : va_W) (h : Nat) (sp : Nat) (lt : Nat) (ib : Bool) (rw : Nat) (cl : Nat) (nu : Nat) (ch : Nat) (h1 : ch < 65536) : GE l D (gts cy) yX2_takesFace cX2_takesFace 2 (some .boolean) 0 0 0 [.ref h, .int (nI ch)] ((h, .inr (6, [.int (nI sp), .int (nI lt), .int (bI ib), .int (nI rw), .int (nI cl), .int (nI nu)])) :: R) (gF (some (.int (bI (fcOk ch)))) ((h, .inr (6, [.int (nI (if fcOk ch then 2 else sp)), .int (nI lt), .int (bI (if fcOk ch then decide (ch = 98) else ib)), .int (nI rw), .int (nI cl), .int (nI nu)])) :: R)) := by
  refine g_intro (by decide +kernel) (lv := [(0, .ref h), (1, .int (nI ch))]) rfl (Nat.le_of_ble_eq_true rfl) ?_
  intro p e s m below meth c C0 G ls hl
  have hx := C0.1
  have hb := C0.2.1
  have hown := C0.2.2.2.2.2.1
  have hts := C0.2.2.2.2.2.2.1
  refine lv_iload_n hx hb dX2_takesFace_0 rfl (lv_at hl 1 rfl) ?_
  refine lv_bipush (v := 102) hx hb dX2_takesFace_1 (by decide) ?_
  refine lv_icmp_eq (tgt := 14) hx hb dX2_takesFace_3 (by decide) (fun c_3 => ?_) (fun c_3 => ?_)
  · skip
    have c_3 : ch = 102 := (nI_eq (a := ch) (b := 102) (by omega) (by omega)).mp c_3
    refine lv_aload_n hx hb dX2_takesFace_14 rfl (lv_at hl 0 rfl) ?_
    refine lv_iload_n hx hb dX2_takesFace_15 rfl (lv_at hl 1 rfl) ?_
    refine lv_bipush (v := 98) hx hb dX2_takesFace_16 (by decide) ?_
    refine lv_icmp_ne (tgt := 25) hx hb dX2_takesFace_18 (by decide) (fun c_18 => ?_) (fun c_18 => ?_)
    · skip
      have c_18 : ¬ (ch = 98) := fun h => c_18 ((nI_eq (a := ch) (b := 98) (by omega) (by omega)).mpr h)
      refine lv_iconst (v := 0) hx hb dX2_takesFace_25 (by decide) ?_
      refine g_put (q0 := 0) (W2 := (h, .inr (6, [.int (nI sp), .int (nI lt), .int 0, .int (nI rw), .int (nI cl), .int (nI nu)])) :: R) C0 G ft_X2 in_X2 rfl rfl 2 (by decide) fl_X2_43 (fun _ h => h) rfl rfl rfl (Nat.le_of_ble_eq_true rfl) rfl dX2_takesFace_26 (fun H locs G => ?_)
      refine lv_aload_n hx hb dX2_takesFace_29 rfl (lv_at hl 0 rfl) ?_
      refine lv_iconst (v := 2) hx hb dX2_takesFace_30 (by decide) ?_
      refine g_put (q0 := 0) (W2 := (h, .inr (6, [.int 2, .int (nI lt), .int 0, .int (nI rw), .int (nI cl), .int (nI nu)])) :: R) C0 G ft_X2 in_X2 rfl rfl 0 (by decide) fl_X2_11 (fun _ h => h) rfl rfl rfl (Nat.le_of_ble_eq_true rfl) rfl dX2_takesFace_31 (fun H locs G => ?_)
      refine lv_iconst (v := 1) hx hb dX2_takesFace_34 (by decide) ?_
      exact g_zret C0 G rfl ⟨by first | rfl | (exfalso; omega) | (simp only [fcOk, bI, c_3, c_18, Bool.false_eq_true, ↓reduceIte, eq_self, decide_true, decide_false, not_true_eq_false, not_false_eq_true, Bool.true_and, Bool.false_and, Bool.and_true, Bool.and_false]; done) | (simp [fcOk, bI, c_3, c_18]; done) | (simp [fcOk, bI, c_3, c_18]; rfl) | (simp [fcOk, bI, c_3, c_18]; omega), by first | rfl | (exfalso; omega) | (simp only [fcOk, bI, c_3, c_18, Bool.false_eq_true, ↓reduceIte, eq_self, decide_true, decide_false, not_true_eq_false, not_false_eq_true, Bool.true_and, Bool.false_and, Bool.and_true, Bool.and_false]; done) | (simp [fcOk, bI, c_3, c_18]; done) | (simp [fcOk, bI, c_3, c_18]; rfl) | (simp [fcOk, bI, c_3, c_18]; omega)⟩ dX2_takesFace_35
    · skip
      have c_18 : ch = 98 := (nI_eq (a := ch) (b := 98) (by omega) (by omega)).mp c_18
      refine lv_iconst (v := 1) hx hb dX2_takesFace_21 (by decide) ?_
      refine lv_goto (tgt := 26) hx hb dX2_takesFace_22 (by decide) ?_
      refine g_put (q0 := 0) (W2 := (h, .inr (6, [.int (nI sp), .int (nI lt), .int 1, .int (nI rw), .int (nI cl), .int (nI nu)])) :: R) C0 G ft_X2 in_X2 rfl rfl 2 (by decide) fl_X2_43 (fun _ h => h) rfl rfl rfl (Nat.le_of_ble_eq_true rfl) rfl dX2_takesFace_26 (fun H locs G => ?_)
      refine lv_aload_n hx hb dX2_takesFace_29 rfl (lv_at hl 0 rfl) ?_
      refine lv_iconst (v := 2) hx hb dX2_takesFace_30 (by decide) ?_
      refine g_put (q0 := 0) (W2 := (h, .inr (6, [.int 2, .int (nI lt), .int 1, .int (nI rw), .int (nI cl), .int (nI nu)])) :: R) C0 G ft_X2 in_X2 rfl rfl 0 (by decide) fl_X2_11 (fun _ h => h) rfl rfl rfl (Nat.le_of_ble_eq_true rfl) rfl dX2_takesFace_31 (fun H locs G => ?_)
      refine lv_iconst (v := 1) hx hb dX2_takesFace_34 (by decide) ?_
      exact g_zret C0 G rfl ⟨by first | rfl | (exfalso; omega) | (simp only [fcOk, bI, c_3, c_18, Bool.false_eq_true, ↓reduceIte, eq_self, decide_true, decide_false, not_true_eq_false, not_false_eq_true, Bool.true_and, Bool.false_and, Bool.and_true, Bool.and_false]; done) | (simp [fcOk, bI, c_3, c_18]; done) | (simp [fcOk, bI, c_3, c_18]; rfl) | (simp [fcOk, bI, c_3, c_18]; omega), by first | rfl | (exfalso; omega) | (simp only [fcOk, bI, c_3, c_18, Bool.false_eq_true, ↓reduceIte, eq_self, decide_true, decide_false, not_true_eq_false, not_false_eq_true, Bool.true_and, Bool.false_and, Bool.and_true, Bool.and_false]; done) | (simp [fcOk, bI, c_3, c_18]; done) | (simp [fcOk, bI, c_3, c_18]; rfl) | (simp [fcOk, bI, c_3, c_18]; omega)⟩ dX2_takesFace_35
  · skip
    have c_3 : ¬ (ch = 102) := fun h => c_3 ((nI_eq (a := ch) (b := 102) (by omega) (by omega)).mpr h)
    refine lv_iload_n hx hb dX2_takesFace_6 rfl (lv_at hl 1 rfl) ?_
    refine lv_bipush (v := 98) hx hb dX2_takesFace_7 (by decide) ?_
    refine lv_icmp_eq (tgt := 14) hx hb dX2_takesFace_9 (by decide) (fun c_9 => ?_) (fun c_9 => ?_)
    · skip
      have c_9 : ch = 98 := (nI_eq (a := ch) (b := 98) (by omega) (by omega)).mp c_9
      refine lv_aload_n hx hb dX2_takesFace_14 rfl (lv_at hl 0 rfl) ?_
      refine lv_iload_n hx hb dX2_takesFace_15 rfl (lv_at hl 1 rfl) ?_
      refine lv_bipush (v := 98) hx hb dX2_takesFace_16 (by decide) ?_
      refine lv_icmp_ne (tgt := 25) hx hb dX2_takesFace_18 (by decide) (fun c_18 => ?_) (fun c_18 => ?_)
      · skip
        have c_18 : ¬ (ch = 98) := fun h => c_18 ((nI_eq (a := ch) (b := 98) (by omega) (by omega)).mpr h)
        refine lv_iconst (v := 0) hx hb dX2_takesFace_25 (by decide) ?_
        refine g_put (q0 := 0) (W2 := (h, .inr (6, [.int (nI sp), .int (nI lt), .int 0, .int (nI rw), .int (nI cl), .int (nI nu)])) :: R) C0 G ft_X2 in_X2 rfl rfl 2 (by decide) fl_X2_43 (fun _ h => h) rfl rfl rfl (Nat.le_of_ble_eq_true rfl) rfl dX2_takesFace_26 (fun H locs G => ?_)
        refine lv_aload_n hx hb dX2_takesFace_29 rfl (lv_at hl 0 rfl) ?_
        refine lv_iconst (v := 2) hx hb dX2_takesFace_30 (by decide) ?_
        refine g_put (q0 := 0) (W2 := (h, .inr (6, [.int 2, .int (nI lt), .int 0, .int (nI rw), .int (nI cl), .int (nI nu)])) :: R) C0 G ft_X2 in_X2 rfl rfl 0 (by decide) fl_X2_11 (fun _ h => h) rfl rfl rfl (Nat.le_of_ble_eq_true rfl) rfl dX2_takesFace_31 (fun H locs G => ?_)
        refine lv_iconst (v := 1) hx hb dX2_takesFace_34 (by decide) ?_
        exact g_zret C0 G rfl ⟨by first | rfl | (exfalso; omega) | (simp only [fcOk, bI, c_3, c_9, c_18, Bool.false_eq_true, ↓reduceIte, eq_self, decide_true, decide_false, not_true_eq_false, not_false_eq_true, Bool.true_and, Bool.false_and, Bool.and_true, Bool.and_false]; done) | (simp [fcOk, bI, c_3, c_9, c_18]; done) | (simp [fcOk, bI, c_3, c_9, c_18]; rfl) | (simp [fcOk, bI, c_3, c_9, c_18]; omega), by first | rfl | (exfalso; omega) | (simp only [fcOk, bI, c_3, c_9, c_18, Bool.false_eq_true, ↓reduceIte, eq_self, decide_true, decide_false, not_true_eq_false, not_false_eq_true, Bool.true_and, Bool.false_and, Bool.and_true, Bool.and_false]; done) | (simp [fcOk, bI, c_3, c_9, c_18]; done) | (simp [fcOk, bI, c_3, c_9, c_18]; rfl) | (simp [fcOk, bI, c_3, c_9, c_18]; omega)⟩ dX2_takesFace_35
      · skip
        have c_18 : ch = 98 := (nI_eq (a := ch) (b := 98) (by omega) (by omega)).mp c_18
        refine lv_iconst (v := 1) hx hb dX2_takesFace_21 (by decide) ?_
        refine lv_goto (tgt := 26) hx hb dX2_takesFace_22 (by decide) ?_
        refine g_put (q0 := 0) (W2 := (h, .inr (6, [.int (nI sp), .int (nI lt), .int 1, .int (nI rw), .int (nI cl), .int (nI nu)])) :: R) C0 G ft_X2 in_X2 rfl rfl 2 (by decide) fl_X2_43 (fun _ h => h) rfl rfl rfl (Nat.le_of_ble_eq_true rfl) rfl dX2_takesFace_26 (fun H locs G => ?_)
        refine lv_aload_n hx hb dX2_takesFace_29 rfl (lv_at hl 0 rfl) ?_
        refine lv_iconst (v := 2) hx hb dX2_takesFace_30 (by decide) ?_
        refine g_put (q0 := 0) (W2 := (h, .inr (6, [.int 2, .int (nI lt), .int 1, .int (nI rw), .int (nI cl), .int (nI nu)])) :: R) C0 G ft_X2 in_X2 rfl rfl 0 (by decide) fl_X2_11 (fun _ h => h) rfl rfl rfl (Nat.le_of_ble_eq_true rfl) rfl dX2_takesFace_31 (fun H locs G => ?_)
        refine lv_iconst (v := 1) hx hb dX2_takesFace_34 (by decide) ?_
        exact g_zret C0 G rfl ⟨by first | rfl | (exfalso; omega) | (simp only [fcOk, bI, c_3, c_9, c_18, Bool.false_eq_true, ↓reduceIte, eq_self, decide_true, decide_false, not_true_eq_false, not_false_eq_true, Bool.true_and, Bool.false_and, Bool.and_true, Bool.and_false]; done) | (simp [fcOk, bI, c_3, c_9, c_18]; done) | (simp [fcOk, bI, c_3, c_9, c_18]; rfl) | (simp [fcOk, bI, c_3, c_9, c_18]; omega), by first | rfl | (exfalso; omega) | (simp only [fcOk, bI, c_3, c_9, c_18, Bool.false_eq_true, ↓reduceIte, eq_self, decide_true, decide_false, not_true_eq_false, not_false_eq_true, Bool.true_and, Bool.false_and, Bool.and_true, Bool.and_false]; done) | (simp [fcOk, bI, c_3, c_9, c_18]; done) | (simp [fcOk, bI, c_3, c_9, c_18]; rfl) | (simp [fcOk, bI, c_3, c_9, c_18]; omega)⟩ dX2_takesFace_35
    · skip
      have c_9 : ¬ (ch = 98) := fun h => c_9 ((nI_eq (a := ch) (b := 98) (by omega) (by omega)).mpr h)
      refine lv_iconst (v := 0) hx hb dX2_takesFace_12 (by decide) ?_
      exact g_zret C0 G rfl ⟨by first | rfl | (exfalso; omega) | (simp only [fcOk, bI, c_3, c_9, Bool.false_eq_true, ↓reduceIte, eq_self, decide_true, decide_false, not_true_eq_false, not_false_eq_true, Bool.true_and, Bool.false_and, Bool.and_true, Bool.and_false]; done) | (simp [fcOk, bI, c_3, c_9]; done) | (simp [fcOk, bI, c_3, c_9]; rfl) | (simp [fcOk, bI, c_3, c_9]; omega), by first | rfl | (exfalso; omega) | (simp only [fcOk, bI, c_3, c_9, Bool.false_eq_true, ↓reduceIte, eq_self, decide_true, decide_false, not_true_eq_false, not_false_eq_true, Bool.true_and, Bool.false_and, Bool.and_true, Bool.and_false]; done) | (simp [fcOk, bI, c_3, c_9]; done) | (simp [fcOk, bI, c_3, c_9]; rfl) | (simp [fcOk, bI, c_3, c_9]; omega)⟩ dX2_takesFace_13

set_option maxHeartbeats 4000000 in
set_option maxRecDepth 100000 in
theorem c_X2_takesRow (l : Launch) (D : va_G) (cy : Nat → ClassId) (R : va_W) (h : Nat) (sp : Nat) (lt : Nat) (ib : Bool) (rw : Nat) (cl : Nat) (nu : Nat) (ch : Nat) (h1 : ch < 65536) (h2 : lt < 65536) : GE l D (gts cy) yX2_takesRow cX2_takesRow 4 (some .boolean) 1 0 0 [.ref h, .int (nI ch)] ((h, .inr (6, [.int (nI sp), .int (nI lt), .int (bI ib), .int (nI rw), .int (nI cl), .int (nI nu)])) :: R) (gF (some (.int (bI (dgOk (moR lt) ch)))) ((h, .inr (6, [.int (nI (if dgOk (moR lt) ch then (if lt = 112 then 4 else 3) else sp)), .int (nI lt), .int (bI ib), .int (nI (if dgOk (moR lt) ch then ch - 48 else rw)), .int (nI cl), .int (nI nu)])) :: R)) := by
  refine g_intro (by decide +kernel) (lv := [(0, .ref h), (1, .int (nI ch))]) rfl (Nat.le_of_ble_eq_true rfl) ?_
  intro p e s m below meth c C0 G ls hl
  have hx := C0.1
  have hb := C0.2.1
  have hown := C0.2.2.2.2.2.1
  have hts := C0.2.2.2.2.2.2.1
  refine lv_aload_n hx hb dX2_takesRow_0 rfl (lv_at hl 0 rfl) ?_
  refine g_get (q0 := 0) (v := .int (nI lt)) C0 G in_X2 rfl rfl 1 (by decide) fl_X2_39 (fun _ h => h) rfl dX2_takesRow_1 ?_
  refine lv_bipush (v := 112) hx hb dX2_takesRow_4 (by decide) ?_
  refine lv_icmp_ne (tgt := 13) hx hb dX2_takesRow_6 (by decide) (fun c_6 => ?_) (fun c_6 => ?_)
  · skip
    have c_6 : ¬ (lt = 112) := fun h => c_6 ((nI_eq (a := lt) (b := 112) (by omega) (by omega)).mpr h)
    have e_m : moR lt = 7 := if_neg c_6
    refine lv_iconst (v := 0) hx hb dX2_takesRow_13 (by decide) ?_
    refine lv_istore_n (lv' := [(2, .int 0), (0, .ref h), (1, .int (nI ch))]) hx hb dX2_takesRow_14 rfl hl (by decide) rfl (fun ls hl => ?_)
    refine lv_iload_n hx hb dX2_takesRow_15 rfl (lv_at hl 0 rfl) ?_
    refine lv_if_eq (tgt := 24) hx hb dX2_takesRow_16 (by decide) (fun c_16 => ?_) (fun c_16 => ?_)
    · skip
      refine lv_bipush (v := 7) hx hb dX2_takesRow_24 (by decide) ?_
      refine lv_iload_n hx hb dX2_takesRow_26 rfl (lv_at hl 2 rfl) ?_
      refine g_callS (As := [.int 7, .int (nI ch)]) (rest := []) C0 G (c_X2_digitUpTo l D cy (W1 := (h, .inr (6, [.int (nI sp), .int (nI lt), .int (bI ib), .int (nI rw), .int (nI cl), .int (nI nu)])) :: R) (most := 7) (ch := ch) (by decide) (by omega)) k_X2_digitUpTo ml_X2_47 dX2_takesRow_27 rfl rfl hl.1 (Nat.le_of_ble_eq_true rfl) ⟨Nat.le_of_ble_eq_true rfl, Nat.le_of_ble_eq_true rfl⟩ ⟨Nat.le_of_ble_eq_true rfl, Nat.le_of_ble_eq_true rfl⟩ (fun r W2 H locs hp G => ?_)
      obtain ⟨rfl, hw⟩ := hp
      have G := g_wc hw G
      refine W.eq (g2 := F0 m 30 ls [.int (dgI 7 ch)]) rfl ?_
      refine lv_istore_n (lv' := [(3, .int (dgI 7 ch)), (2, .int 0), (0, .ref h), (1, .int (nI ch))]) hx hb dX2_takesRow_30 rfl hl (by decide) rfl (fun ls hl => ?_)
      rw [← e_m] at hl
      refine lv_iload_n hx hb dX2_takesRow_31 rfl (lv_at hl 0 rfl) ?_
      refine lv_iconst (v := (-1)) hx hb dX2_takesRow_32 (by decide) ?_
      refine lv_icmp_ne (tgt := 38) hx hb dX2_takesRow_33 (by decide) (fun c_33 => ?_) (fun c_33 => ?_)
      · skip
        have c_33 : dgOk (moR lt) ch = true := dgI_y (by omega) c_33
        have hd48 := dgOk_b c_33
        rw [dgI_e c_33] at hl
        rw [e_m] at c_33
        refine lv_aload_n hx hb dX2_takesRow_38 rfl (lv_at hl 2 rfl) ?_
        refine lv_iload_n hx hb dX2_takesRow_39 rfl (lv_at hl 0 rfl) ?_
        refine g_put (q0 := 0) (W2 := (h, .inr (6, [.int (nI sp), .int (nI lt), .int (bI ib), .int (nI (ch - 48)), .int (nI cl), .int (nI nu)])) :: R) C0 G ft_X2 in_X2 rfl rfl 3 (by decide) fl_X2_51 (fun _ h => h) rfl rfl rfl (Nat.le_of_ble_eq_true rfl) rfl dX2_takesRow_40 (fun H locs G => ?_)
        refine lv_aload_n hx hb dX2_takesRow_43 rfl (lv_at hl 2 rfl) ?_
        refine lv_iload_n hx hb dX2_takesRow_44 rfl (lv_at hl 1 rfl) ?_
        refine lv_if_eq (tgt := 52) hx hb dX2_takesRow_45 (by decide) (fun c_45 => ?_) (fun c_45 => ?_)
        · skip
          refine lv_iconst (v := 3) hx hb dX2_takesRow_52 (by decide) ?_
          refine g_put (q0 := 0) (W2 := (h, .inr (6, [.int 3, .int (nI lt), .int (bI ib), .int (nI (ch - 48)), .int (nI cl), .int (nI nu)])) :: R) C0 G ft_X2 in_X2 rfl rfl 0 (by decide) fl_X2_11 (fun _ h => h) rfl rfl rfl (Nat.le_of_ble_eq_true rfl) rfl dX2_takesRow_53 (fun H locs G => ?_)
          refine lv_iconst (v := 1) hx hb dX2_takesRow_56 (by decide) ?_
          exact g_zret C0 G rfl ⟨by first | rfl | (exfalso; omega) | (simp only [moR, bI, c_6, c_33, Bool.false_eq_true, ↓reduceIte, eq_self, decide_true, decide_false, not_true_eq_false, not_false_eq_true, Bool.true_and, Bool.false_and, Bool.and_true, Bool.and_false]; done) | (simp [moR, bI, c_6, c_33]; done) | (simp [moR, bI, c_6, c_33]; rfl) | (simp [moR, bI, c_6, c_33]; omega), by first | rfl | (exfalso; omega) | (simp only [moR, bI, c_6, c_33, Bool.false_eq_true, ↓reduceIte, eq_self, decide_true, decide_false, not_true_eq_false, not_false_eq_true, Bool.true_and, Bool.false_and, Bool.and_true, Bool.and_false]; done) | (simp [moR, bI, c_6, c_33]; done) | (simp [moR, bI, c_6, c_33]; rfl) | (simp [moR, bI, c_6, c_33]; omega)⟩ dX2_takesRow_57
        · exact absurd c_45 (by decide)
      · skip
        have c_33 : dgOk (moR lt) ch = false := dgI_n (by omega) c_33
        rw [e_m] at c_33
        refine lv_iconst (v := 0) hx hb dX2_takesRow_36 (by decide) ?_
        exact g_zret C0 G rfl ⟨by first | rfl | (exfalso; omega) | (simp only [moR, bI, c_6, c_33, Bool.false_eq_true, ↓reduceIte, eq_self, decide_true, decide_false, not_true_eq_false, not_false_eq_true, Bool.true_and, Bool.false_and, Bool.and_true, Bool.and_false]; done) | (simp [moR, bI, c_6, c_33]; done) | (simp [moR, bI, c_6, c_33]; rfl) | (simp [moR, bI, c_6, c_33]; omega), by first | rfl | (exfalso; omega) | (simp only [moR, bI, c_6, c_33, Bool.false_eq_true, ↓reduceIte, eq_self, decide_true, decide_false, not_true_eq_false, not_false_eq_true, Bool.true_and, Bool.false_and, Bool.and_true, Bool.and_false]; done) | (simp [moR, bI, c_6, c_33]; done) | (simp [moR, bI, c_6, c_33]; rfl) | (simp [moR, bI, c_6, c_33]; omega)⟩ dX2_takesRow_37
    · exact absurd c_16 (by decide)
  · skip
    have c_6 : lt = 112 := (nI_eq (a := lt) (b := 112) (by omega) (by omega)).mp c_6
    have e_m : moR lt = 6 := if_pos c_6
    refine lv_iconst (v := 1) hx hb dX2_takesRow_9 (by decide) ?_
    refine lv_goto (tgt := 14) hx hb dX2_takesRow_10 (by decide) ?_
    refine lv_istore_n (lv' := [(2, .int 1), (0, .ref h), (1, .int (nI ch))]) hx hb dX2_takesRow_14 rfl hl (by decide) rfl (fun ls hl => ?_)
    refine lv_iload_n hx hb dX2_takesRow_15 rfl (lv_at hl 0 rfl) ?_
    refine lv_if_eq (tgt := 24) hx hb dX2_takesRow_16 (by decide) (fun c_16 => ?_) (fun c_16 => ?_)
    · exact absurd c_16 (by decide)
    · skip
      refine lv_bipush (v := 6) hx hb dX2_takesRow_19 (by decide) ?_
      refine lv_goto (tgt := 26) hx hb dX2_takesRow_21 (by decide) ?_
      refine lv_iload_n hx hb dX2_takesRow_26 rfl (lv_at hl 2 rfl) ?_
      refine g_callS (As := [.int 6, .int (nI ch)]) (rest := []) C0 G (c_X2_digitUpTo l D cy (W1 := (h, .inr (6, [.int (nI sp), .int (nI lt), .int (bI ib), .int (nI rw), .int (nI cl), .int (nI nu)])) :: R) (most := 6) (ch := ch) (by decide) (by omega)) k_X2_digitUpTo ml_X2_47 dX2_takesRow_27 rfl rfl hl.1 (Nat.le_of_ble_eq_true rfl) ⟨Nat.le_of_ble_eq_true rfl, Nat.le_of_ble_eq_true rfl⟩ ⟨Nat.le_of_ble_eq_true rfl, Nat.le_of_ble_eq_true rfl⟩ (fun r W2 H locs hp G => ?_)
      obtain ⟨rfl, hw⟩ := hp
      have G := g_wc hw G
      refine W.eq (g2 := F0 m 30 ls [.int (dgI 6 ch)]) rfl ?_
      refine lv_istore_n (lv' := [(3, .int (dgI 6 ch)), (2, .int 1), (0, .ref h), (1, .int (nI ch))]) hx hb dX2_takesRow_30 rfl hl (by decide) rfl (fun ls hl => ?_)
      rw [← e_m] at hl
      refine lv_iload_n hx hb dX2_takesRow_31 rfl (lv_at hl 0 rfl) ?_
      refine lv_iconst (v := (-1)) hx hb dX2_takesRow_32 (by decide) ?_
      refine lv_icmp_ne (tgt := 38) hx hb dX2_takesRow_33 (by decide) (fun c_33 => ?_) (fun c_33 => ?_)
      · skip
        have c_33 : dgOk (moR lt) ch = true := dgI_y (by omega) c_33
        have hd48 := dgOk_b c_33
        rw [dgI_e c_33] at hl
        rw [e_m] at c_33
        refine lv_aload_n hx hb dX2_takesRow_38 rfl (lv_at hl 2 rfl) ?_
        refine lv_iload_n hx hb dX2_takesRow_39 rfl (lv_at hl 0 rfl) ?_
        refine g_put (q0 := 0) (W2 := (h, .inr (6, [.int (nI sp), .int (nI lt), .int (bI ib), .int (nI (ch - 48)), .int (nI cl), .int (nI nu)])) :: R) C0 G ft_X2 in_X2 rfl rfl 3 (by decide) fl_X2_51 (fun _ h => h) rfl rfl rfl (Nat.le_of_ble_eq_true rfl) rfl dX2_takesRow_40 (fun H locs G => ?_)
        refine lv_aload_n hx hb dX2_takesRow_43 rfl (lv_at hl 2 rfl) ?_
        refine lv_iload_n hx hb dX2_takesRow_44 rfl (lv_at hl 1 rfl) ?_
        refine lv_if_eq (tgt := 52) hx hb dX2_takesRow_45 (by decide) (fun c_45 => ?_) (fun c_45 => ?_)
        · exact absurd c_45 (by decide)
        · skip
          refine lv_iconst (v := 4) hx hb dX2_takesRow_48 (by decide) ?_
          refine lv_goto (tgt := 53) hx hb dX2_takesRow_49 (by decide) ?_
          refine g_put (q0 := 0) (W2 := (h, .inr (6, [.int 4, .int (nI lt), .int (bI ib), .int (nI (ch - 48)), .int (nI cl), .int (nI nu)])) :: R) C0 G ft_X2 in_X2 rfl rfl 0 (by decide) fl_X2_11 (fun _ h => h) rfl rfl rfl (Nat.le_of_ble_eq_true rfl) rfl dX2_takesRow_53 (fun H locs G => ?_)
          refine lv_iconst (v := 1) hx hb dX2_takesRow_56 (by decide) ?_
          exact g_zret C0 G rfl ⟨by first | rfl | (exfalso; omega) | (simp only [moR, bI, c_6, c_33, Bool.false_eq_true, ↓reduceIte, eq_self, decide_true, decide_false, not_true_eq_false, not_false_eq_true, Bool.true_and, Bool.false_and, Bool.and_true, Bool.and_false]; done) | (simp [moR, bI, c_6, c_33]; done) | (simp [moR, bI, c_6, c_33]; rfl) | (simp [moR, bI, c_6, c_33]; omega), by first | rfl | (exfalso; omega) | (simp only [moR, bI, c_6, c_33, Bool.false_eq_true, ↓reduceIte, eq_self, decide_true, decide_false, not_true_eq_false, not_false_eq_true, Bool.true_and, Bool.false_and, Bool.and_true, Bool.and_false]; done) | (simp [moR, bI, c_6, c_33]; done) | (simp [moR, bI, c_6, c_33]; rfl) | (simp [moR, bI, c_6, c_33]; omega)⟩ dX2_takesRow_57
      · skip
        have c_33 : dgOk (moR lt) ch = false := dgI_n (by omega) c_33
        rw [e_m] at c_33
        refine lv_iconst (v := 0) hx hb dX2_takesRow_36 (by decide) ?_
        exact g_zret C0 G rfl ⟨by first | rfl | (exfalso; omega) | (simp only [moR, bI, c_6, c_33, Bool.false_eq_true, ↓reduceIte, eq_self, decide_true, decide_false, not_true_eq_false, not_false_eq_true, Bool.true_and, Bool.false_and, Bool.and_true, Bool.and_false]; done) | (simp [moR, bI, c_6, c_33]; done) | (simp [moR, bI, c_6, c_33]; rfl) | (simp [moR, bI, c_6, c_33]; omega), by first | rfl | (exfalso; omega) | (simp only [moR, bI, c_6, c_33, Bool.false_eq_true, ↓reduceIte, eq_self, decide_true, decide_false, not_true_eq_false, not_false_eq_true, Bool.true_and, Bool.false_and, Bool.and_true, Bool.and_false]; done) | (simp [moR, bI, c_6, c_33]; done) | (simp [moR, bI, c_6, c_33]; rfl) | (simp [moR, bI, c_6, c_33]; omega)⟩ dX2_takesRow_37

set_option maxHeartbeats 4000000 in
set_option maxRecDepth 100000 in
theorem c_X2_takesColumn (l : Launch) (D : va_G) (cy : Nat → ClassId) (R : va_W) (h : Nat) (sp : Nat) (lt : Nat) (ib : Bool) (rw : Nat) (cl : Nat) (nu : Nat) (ch : Nat) (h1 : ch < 65536) : GE l D (gts cy) yX2_takesColumn cX2_takesColumn 3 (some .boolean) 1 0 0 [.ref h, .int (nI ch)] ((h, .inr (6, [.int (nI sp), .int (nI lt), .int (bI ib), .int (nI rw), .int (nI cl), .int (nI nu)])) :: R) (gF (some (.int (bI (dgOk 7 ch)))) ((h, .inr (6, [.int (nI (if dgOk 7 ch then 8 else sp)), .int (nI lt), .int (bI ib), .int (nI rw), .int (nI (if dgOk 7 ch then ch - 48 else cl)), .int (nI nu)])) :: R)) := by
  refine g_intro (by decide +kernel) (lv := [(0, .ref h), (1, .int (nI ch))]) rfl (Nat.le_of_ble_eq_true rfl) ?_
  intro p e s m below meth c C0 G ls hl
  have hx := C0.1
  have hb := C0.2.1
  have hown := C0.2.2.2.2.2.1
  have hts := C0.2.2.2.2.2.2.1
  refine lv_bipush (v := 7) hx hb dX2_takesColumn_0 (by decide) ?_
  refine lv_iload_n hx hb dX2_takesColumn_2 rfl (lv_at hl 1 rfl) ?_
  refine g_callS (As := [.int 7, .int (nI ch)]) (rest := []) C0 G (c_X2_digitUpTo l D cy (W1 := (h, .inr (6, [.int (nI sp), .int (nI lt), .int (bI ib), .int (nI rw), .int (nI cl), .int (nI nu)])) :: R) (most := 7) (ch := ch) (by decide) (by omega)) k_X2_digitUpTo ml_X2_47 dX2_takesColumn_3 rfl rfl hl.1 (Nat.le_of_ble_eq_true rfl) ⟨Nat.le_of_ble_eq_true rfl, Nat.le_of_ble_eq_true rfl⟩ ⟨Nat.le_of_ble_eq_true rfl, Nat.le_of_ble_eq_true rfl⟩ (fun r W2 H locs hp G => ?_)
  obtain ⟨rfl, hw⟩ := hp
  have G := g_wc hw G
  refine W.eq (g2 := F0 m 6 ls [.int (dgI 7 ch)]) rfl ?_
  refine lv_istore_n (lv' := [(2, .int (dgI 7 ch)), (0, .ref h), (1, .int (nI ch))]) hx hb dX2_takesColumn_6 rfl hl (by decide) rfl (fun ls hl => ?_)
  refine lv_iload_n hx hb dX2_takesColumn_7 rfl (lv_at hl 0 rfl) ?_
  refine lv_iconst (v := (-1)) hx hb dX2_takesColumn_8 (by decide) ?_
  refine lv_icmp_ne (tgt := 14) hx hb dX2_takesColumn_9 (by decide) (fun c_9 => ?_) (fun c_9 => ?_)
  · skip
    have c_9 : dgOk 7 ch = true := dgI_y (by omega) c_9
    have hd48 := dgOk_b c_9
    rw [dgI_e c_9] at hl
    refine lv_aload_n hx hb dX2_takesColumn_14 rfl (lv_at hl 1 rfl) ?_
    refine lv_iload_n hx hb dX2_takesColumn_15 rfl (lv_at hl 0 rfl) ?_
    refine g_put (q0 := 0) (W2 := (h, .inr (6, [.int (nI sp), .int (nI lt), .int (bI ib), .int (nI rw), .int (nI (ch - 48)), .int (nI nu)])) :: R) C0 G ft_X2 in_X2 rfl rfl 4 (by decide) fl_X2_54 (fun _ h => h) rfl rfl rfl (Nat.le_of_ble_eq_true rfl) rfl dX2_takesColumn_16 (fun H locs G => ?_)
    refine lv_aload_n hx hb dX2_takesColumn_19 rfl (lv_at hl 1 rfl) ?_
    refine lv_bipush (v := 8) hx hb dX2_takesColumn_20 (by decide) ?_
    refine g_put (q0 := 0) (W2 := (h, .inr (6, [.int 8, .int (nI lt), .int (bI ib), .int (nI rw), .int (nI (ch - 48)), .int (nI nu)])) :: R) C0 G ft_X2 in_X2 rfl rfl 0 (by decide) fl_X2_11 (fun _ h => h) rfl rfl rfl (Nat.le_of_ble_eq_true rfl) rfl dX2_takesColumn_22 (fun H locs G => ?_)
    refine lv_iconst (v := 1) hx hb dX2_takesColumn_25 (by decide) ?_
    exact g_zret C0 G rfl ⟨by first | rfl | (exfalso; omega) | (simp only [bI, c_9, Bool.false_eq_true, ↓reduceIte, eq_self, decide_true, decide_false, not_true_eq_false, not_false_eq_true, Bool.true_and, Bool.false_and, Bool.and_true, Bool.and_false]; done) | (simp [bI, c_9]; done) | (simp [bI, c_9]; rfl) | (simp [bI, c_9]; omega), by first | rfl | (exfalso; omega) | (simp only [bI, c_9, Bool.false_eq_true, ↓reduceIte, eq_self, decide_true, decide_false, not_true_eq_false, not_false_eq_true, Bool.true_and, Bool.false_and, Bool.and_true, Bool.and_false]; done) | (simp [bI, c_9]; done) | (simp [bI, c_9]; rfl) | (simp [bI, c_9]; omega)⟩ dX2_takesColumn_26
  · skip
    have c_9 : dgOk 7 ch = false := dgI_n (by omega) c_9
    refine lv_iconst (v := 0) hx hb dX2_takesColumn_12 (by decide) ?_
    exact g_zret C0 G rfl ⟨by first | rfl | (exfalso; omega) | (simp only [bI, c_9, Bool.false_eq_true, ↓reduceIte, eq_self, decide_true, decide_false, not_true_eq_false, not_false_eq_true, Bool.true_and, Bool.false_and, Bool.and_true, Bool.and_false]; done) | (simp [bI, c_9]; done) | (simp [bI, c_9]; rfl) | (simp [bI, c_9]; omega), by first | rfl | (exfalso; omega) | (simp only [bI, c_9, Bool.false_eq_true, ↓reduceIte, eq_self, decide_true, decide_false, not_true_eq_false, not_false_eq_true, Bool.true_and, Bool.false_and, Bool.and_true, Bool.and_false]; done) | (simp [bI, c_9]; done) | (simp [bI, c_9]; rfl) | (simp [bI, c_9]; omega)⟩ dX2_takesColumn_13

set_option maxHeartbeats 4000000 in
set_option maxRecDepth 100000 in
theorem c_X2_takesSign (l : Launch) (D : va_G) (cy : Nat → ClassId) (R : va_W) (h : Nat) (sp : Nat) (lt : Nat) (ib : Bool) (rw : Nat) (cl : Nat) (nu : Nat) (ch : Nat) (due : Nat) (nx : Nat) (h1 : ch < 65536) (h2 : due < 65536) : GE l D (gts cy) yX2_takesSign cX2_takesSign 4 (some .boolean) 0 0 0 [.ref h, .int (nI ch), .int (nI due), .int (nI nx)] ((h, .inr (6, [.int (nI sp), .int (nI lt), .int (bI ib), .int (nI rw), .int (nI cl), .int (nI nu)])) :: R) (gF (some (.int (bI (decide (ch = due))))) ((h, .inr (6, [.int (nI (if ch = due then nx else sp)), .int (nI lt), .int (bI ib), .int (nI rw), .int (nI cl), .int (nI nu)])) :: R)) := by
  refine g_intro (by decide +kernel) (lv := [(0, .ref h), (1, .int (nI ch)), (2, .int (nI due)), (3, .int (nI nx))]) rfl (Nat.le_of_ble_eq_true rfl) ?_
  intro p e s m below meth c C0 G ls hl
  have hx := C0.1
  have hb := C0.2.1
  have hown := C0.2.2.2.2.2.1
  have hts := C0.2.2.2.2.2.2.1
  refine lv_iload_n hx hb dX2_takesSign_0 rfl (lv_at hl 1 rfl) ?_
  refine lv_iload_n hx hb dX2_takesSign_1 rfl (lv_at hl 2 rfl) ?_
  refine lv_icmp_eq (tgt := 7) hx hb dX2_takesSign_2 (by decide) (fun c_2 => ?_) (fun c_2 => ?_)
  · skip
    have c_2 : ch = due := (nI_eq (a := ch) (b := due) (by omega) (by omega)).mp c_2
    refine lv_aload_n hx hb dX2_takesSign_7 rfl (lv_at hl 0 rfl) ?_
    refine lv_iload_n hx hb dX2_takesSign_8 rfl (lv_at hl 3 rfl) ?_
    refine g_put (q0 := 0) (W2 := (h, .inr (6, [.int (nI nx), .int (nI lt), .int (bI ib), .int (nI rw), .int (nI cl), .int (nI nu)])) :: R) C0 G ft_X2 in_X2 rfl rfl 0 (by decide) fl_X2_11 (fun _ h => h) rfl rfl rfl (Nat.le_of_ble_eq_true rfl) rfl dX2_takesSign_9 (fun H locs G => ?_)
    refine lv_iconst (v := 1) hx hb dX2_takesSign_12 (by decide) ?_
    exact g_zret C0 G rfl ⟨by first | rfl | (exfalso; omega) | (simp only [bI, c_2, Bool.false_eq_true, ↓reduceIte, eq_self, decide_true, decide_false, not_true_eq_false, not_false_eq_true, Bool.true_and, Bool.false_and, Bool.and_true, Bool.and_false]; done) | (simp [bI, c_2]; done) | (simp [bI, c_2]; rfl) | (simp [bI, c_2]; omega), by first | rfl | (exfalso; omega) | (simp only [bI, c_2, Bool.false_eq_true, ↓reduceIte, eq_self, decide_true, decide_false, not_true_eq_false, not_false_eq_true, Bool.true_and, Bool.false_and, Bool.and_true, Bool.and_false]; done) | (simp [bI, c_2]; done) | (simp [bI, c_2]; rfl) | (simp [bI, c_2]; omega)⟩ dX2_takesSign_13
  · skip
    have c_2 : ¬ (ch = due) := fun h => c_2 ((nI_eq (a := ch) (b := due) (by omega) (by omega)).mpr h)
    refine lv_iconst (v := 0) hx hb dX2_takesSign_5 (by decide) ?_
    exact g_zret C0 G rfl ⟨by first | rfl | (exfalso; omega) | (simp only [bI, c_2, Bool.false_eq_true, ↓reduceIte, eq_self, decide_true, decide_false, not_true_eq_false, not_false_eq_true, Bool.true_and, Bool.false_and, Bool.and_true, Bool.and_false]; done) | (simp [bI, c_2]; done) | (simp [bI, c_2]; rfl) | (simp [bI, c_2]; omega), by first | rfl | (exfalso; omega) | (simp only [bI, c_2, Bool.false_eq_true, ↓reduceIte, eq_self, decide_true, decide_false, not_true_eq_false, not_false_eq_true, Bool.true_and, Bool.false_and, Bool.and_true, Bool.and_false]; done) | (simp [bI, c_2]; done) | (simp [bI, c_2]; rfl) | (simp [bI, c_2]; omega)⟩ dX2_takesSign_6

set_option maxHeartbeats 4000000 in
set_option maxRecDepth 100000 in
theorem c_X2_takesNumber (l : Launch) (D : va_G) (cy : Nat → ClassId) (R : va_W) (h : Nat) (sp : Nat) (lt : Nat) (ib : Bool) (rw : Nat) (cl : Nat) (nu : Nat) (ch : Nat) (most : Nat) (nx : Nat) (h1 : ch < 65536) (h2 : most < 10) : GE l D (gts cy) yX2_takesNumber cX2_takesNumber 5 (some .boolean) 1 0 0 [.ref h, .int (nI ch), .int (nI most), .int (nI nx)] ((h, .inr (6, [.int (nI sp), .int (nI lt), .int (bI ib), .int (nI rw), .int (nI cl), .int (nI nu)])) :: R) (gF (some (.int (bI (dgOk most ch)))) ((h, .inr (6, [.int (nI (if dgOk most ch then nx else sp)), .int (nI lt), .int (bI ib), .int (nI rw), .int (nI cl), .int (nI (if dgOk most ch then ch - 48 else nu))])) :: R)) := by
  refine g_intro (by decide +kernel) (lv := [(0, .ref h), (1, .int (nI ch)), (2, .int (nI most)), (3, .int (nI nx))]) rfl (Nat.le_of_ble_eq_true rfl) ?_
  intro p e s m below meth c C0 G ls hl
  have hx := C0.1
  have hb := C0.2.1
  have hown := C0.2.2.2.2.2.1
  have hts := C0.2.2.2.2.2.2.1
  refine lv_iload_n hx hb dX2_takesNumber_0 rfl (lv_at hl 2 rfl) ?_
  refine lv_iload_n hx hb dX2_takesNumber_1 rfl (lv_at hl 1 rfl) ?_
  refine g_callS (As := [.int (nI most), .int (nI ch)]) (rest := []) C0 G (c_X2_digitUpTo l D cy (W1 := (h, .inr (6, [.int (nI sp), .int (nI lt), .int (bI ib), .int (nI rw), .int (nI cl), .int (nI nu)])) :: R) (most := most) (ch := ch) (by omega) (by omega)) k_X2_digitUpTo ml_X2_47 dX2_takesNumber_2 rfl rfl hl.1 (Nat.le_of_ble_eq_true rfl) ⟨Nat.le_of_ble_eq_true rfl, Nat.le_of_ble_eq_true rfl⟩ ⟨Nat.le_of_ble_eq_true rfl, Nat.le_of_ble_eq_true rfl⟩ (fun r W2 H locs hp G => ?_)
  obtain ⟨rfl, hw⟩ := hp
  have G := g_wc hw G
  refine W.eq (g2 := F0 m 5 ls [.int (dgI most ch)]) rfl ?_
  refine lv_istore (lv' := [(4, .int (dgI most ch)), (0, .ref h), (1, .int (nI ch)), (2, .int (nI most)), (3, .int (nI nx))]) hx hb dX2_takesNumber_5 hl (by decide) rfl (fun ls hl => ?_)
  refine lv_iload hx hb dX2_takesNumber_7 (lv_at hl 0 rfl) ?_
  refine lv_iconst (v := (-1)) hx hb dX2_takesNumber_9 (by decide) ?_
  refine lv_icmp_ne (tgt := 15) hx hb dX2_takesNumber_10 (by decide) (fun c_10 => ?_) (fun c_10 => ?_)
  · skip
    have c_10 : dgOk most ch = true := dgI_y (by omega) c_10
    have hd48 := dgOk_b c_10
    rw [dgI_e c_10] at hl
    refine lv_aload_n hx hb dX2_takesNumber_15 rfl (lv_at hl 1 rfl) ?_
    refine lv_iload hx hb dX2_takesNumber_16 (lv_at hl 0 rfl) ?_
    refine g_put (q0 := 0) (W2 := (h, .inr (6, [.int (nI sp), .int (nI lt), .int (bI ib), .int (nI rw), .int (nI cl), .int (nI (ch - 48))])) :: R) C0 G ft_X2 in_X2 rfl rfl 5 (by decide) fl_X2_57 (fun _ h => h) rfl rfl rfl (Nat.le_of_ble_eq_true rfl) rfl dX2_takesNumber_18 (fun H locs G => ?_)
    refine lv_aload_n hx hb dX2_takesNumber_21 rfl (lv_at hl 1 rfl) ?_
    refine lv_iload_n hx hb dX2_takesNumber_22 rfl (lv_at hl 4 rfl) ?_
    refine g_put (q0 := 0) (W2 := (h, .inr (6, [.int (nI nx), .int (nI lt), .int (bI ib), .int (nI rw), .int (nI cl), .int (nI (ch - 48))])) :: R) C0 G ft_X2 in_X2 rfl rfl 0 (by decide) fl_X2_11 (fun _ h => h) rfl rfl rfl (Nat.le_of_ble_eq_true rfl) rfl dX2_takesNumber_23 (fun H locs G => ?_)
    refine lv_iconst (v := 1) hx hb dX2_takesNumber_26 (by decide) ?_
    exact g_zret C0 G rfl ⟨by first | rfl | (exfalso; omega) | (simp only [bI, c_10, Bool.false_eq_true, ↓reduceIte, eq_self, decide_true, decide_false, not_true_eq_false, not_false_eq_true, Bool.true_and, Bool.false_and, Bool.and_true, Bool.and_false]; done) | (simp [bI, c_10]; done) | (simp [bI, c_10]; rfl) | (simp [bI, c_10]; omega), by first | rfl | (exfalso; omega) | (simp only [bI, c_10, Bool.false_eq_true, ↓reduceIte, eq_self, decide_true, decide_false, not_true_eq_false, not_false_eq_true, Bool.true_and, Bool.false_and, Bool.and_true, Bool.and_false]; done) | (simp [bI, c_10]; done) | (simp [bI, c_10]; rfl) | (simp [bI, c_10]; omega)⟩ dX2_takesNumber_27
  · skip
    have c_10 : dgOk most ch = false := dgI_n (by omega) c_10
    refine lv_iconst (v := 0) hx hb dX2_takesNumber_13 (by decide) ?_
    exact g_zret C0 G rfl ⟨by first | rfl | (exfalso; omega) | (simp only [bI, c_10, Bool.false_eq_true, ↓reduceIte, eq_self, decide_true, decide_false, not_true_eq_false, not_false_eq_true, Bool.true_and, Bool.false_and, Bool.and_true, Bool.and_false]; done) | (simp [bI, c_10]; done) | (simp [bI, c_10]; rfl) | (simp [bI, c_10]; omega), by first | rfl | (exfalso; omega) | (simp only [bI, c_10, Bool.false_eq_true, ↓reduceIte, eq_self, decide_true, decide_false, not_true_eq_false, not_false_eq_true, Bool.true_and, Bool.false_and, Bool.and_true, Bool.and_false]; done) | (simp [bI, c_10]; done) | (simp [bI, c_10]; rfl) | (simp [bI, c_10]; omega)⟩ dX2_takesNumber_14

set_option maxHeartbeats 4000000 in
set_option maxRecDepth 100000 in
theorem c_X2_takesMoreOfValue (l : Launch) (D : va_G) (cy : Nat → ClassId) (R : va_W) (h : Nat) (sp : Nat) (lt : Nat) (ib : Bool) (rw : Nat) (cl : Nat) (nu : Nat) (ch : Nat) (h1 : ch < 65536) (h2 : nu < 1000) : GE l D (gts cy) yX2_takesMoreOfValue cX2_takesMoreOfValue 3 (some .boolean) 1 0 0 [.ref h, .int (nI ch)] ((h, .inr (6, [.int (nI sp), .int (nI lt), .int (bI ib), .int (nI rw), .int (nI cl), .int (nI nu)])) :: R) (gF (some (.int (bI (mvOk ch nu)))) ((h, .inr (6, [.int (nI (if dgOk 9 ch then sp else if ch = 59 then 0 else sp)), .int (nI lt), .int (bI ib), .int (nI rw), .int (nI cl), .int (nI (if mvA ch nu then 10 * nu + (ch - 48) else nu))])) :: R)) := by
  refine g_intro (by decide +kernel) (lv := [(0, .ref h), (1, .int (nI ch))]) rfl (Nat.le_of_ble_eq_true rfl) ?_
  intro p e s m below meth c C0 G ls hl
  have hx := C0.1
  have hb := C0.2.1
  have hown := C0.2.2.2.2.2.1
  have hts := C0.2.2.2.2.2.2.1
  refine lv_bipush (v := 9) hx hb dX2_takesMoreOfValue_0 (by decide) ?_
  refine lv_iload_n hx hb dX2_takesMoreOfValue_2 rfl (lv_at hl 1 rfl) ?_
  refine g_callS (As := [.int 9, .int (nI ch)]) (rest := []) C0 G (c_X2_digitUpTo l D cy (W1 := (h, .inr (6, [.int (nI sp), .int (nI lt), .int (bI ib), .int (nI rw), .int (nI cl), .int (nI nu)])) :: R) (most := 9) (ch := ch) (by decide) (by omega)) k_X2_digitUpTo ml_X2_47 dX2_takesMoreOfValue_3 rfl rfl hl.1 (Nat.le_of_ble_eq_true rfl) ⟨Nat.le_of_ble_eq_true rfl, Nat.le_of_ble_eq_true rfl⟩ ⟨Nat.le_of_ble_eq_true rfl, Nat.le_of_ble_eq_true rfl⟩ (fun r W2 H locs hp G => ?_)
  obtain ⟨rfl, hw⟩ := hp
  have G := g_wc hw G
  refine W.eq (g2 := F0 m 6 ls [.int (dgI 9 ch)]) rfl ?_
  refine lv_istore_n (lv' := [(2, .int (dgI 9 ch)), (0, .ref h), (1, .int (nI ch))]) hx hb dX2_takesMoreOfValue_6 rfl hl (by decide) rfl (fun ls hl => ?_)
  refine lv_iload_n hx hb dX2_takesMoreOfValue_7 rfl (lv_at hl 0 rfl) ?_
  refine lv_iconst (v := (-1)) hx hb dX2_takesMoreOfValue_8 (by decide) ?_
  refine lv_icmp_ne (tgt := 21) hx hb dX2_takesMoreOfValue_9 (by decide) (fun c_9 => ?_) (fun c_9 => ?_)
  · skip
    have c_9 : dgOk 9 ch = true := dgI_y (by omega) c_9
    have hd48 := dgOk_b c_9
    rw [dgI_e c_9] at hl
    refine lv_aload_n hx hb dX2_takesMoreOfValue_21 rfl (lv_at hl 1 rfl) ?_
    refine g_get (q0 := 0) (v := .int (nI nu)) C0 G in_X2 rfl rfl 5 (by decide) fl_X2_57 (fun _ h => h) rfl dX2_takesMoreOfValue_22 ?_
    refine lv_if_eq (tgt := 42) hx hb dX2_takesMoreOfValue_25 (by decide) (fun c_25 => ?_) (fun c_25 => ?_)
    · skip
      have c_25 : nu = 0 := (nI_eq (a := nu) (b := 0) (by omega) (by omega)).mp c_25
      refine lv_iconst (v := 0) hx hb dX2_takesMoreOfValue_42 (by decide) ?_
      exact g_zret C0 G rfl ⟨by first | rfl | (simp [mvOk, mvA, bI, c_9, c_25]; done) | (simp [mvOk, mvA, bI, c_9, c_25]; omega), by first | rfl | (simp [mvOk, mvA, bI, c_9, c_25]; done) | (simp [mvOk, mvA, bI, c_9, c_25]; omega)⟩ dX2_takesMoreOfValue_43
    · skip
      have c_25 : ¬ (nu = 0) := fun h => c_25 ((nI_eq (a := nu) (b := 0) (by omega) (by omega)).mpr h)
      refine lv_bipush (v := 10) hx hb dX2_takesMoreOfValue_28 (by decide) ?_
      refine lv_aload_n hx hb dX2_takesMoreOfValue_30 rfl (lv_at hl 1 rfl) ?_
      refine g_get (q0 := 0) (v := .int (nI nu)) C0 G in_X2 rfl rfl 5 (by decide) fl_X2_57 (fun _ h => h) rfl dX2_takesMoreOfValue_31 ?_
      refine lv_imul hx hb dX2_takesMoreOfValue_34 ?_
      refine g_topi (x' := nI (10 * nu)) (pk_mul 10 nu) ?_
      refine lv_iload_n hx hb dX2_takesMoreOfValue_35 rfl (lv_at hl 0 rfl) ?_
      refine lv_iadd hx hb dX2_takesMoreOfValue_36 ?_
      refine g_topi (x' := nI ((10 * nu) + (ch - 48))) (nI_add (10 * nu) (ch - 48)) ?_
      refine lv_bipush (v := 127) hx hb dX2_takesMoreOfValue_37 (by decide) ?_
      refine lv_icmp_le (tgt := 44) hx hb dX2_takesMoreOfValue_39 (by decide) (fun c_39 => ?_) (fun c_39 => ?_)
      · skip
        have c_39 : ((10 * nu) + (ch - 48)) ≤ 127 := (nI_leI (a := (10 * nu) + (ch - 48)) (b := 127) (by omega) (by omega)).mp c_39
        refine lv_aload_n hx hb dX2_takesMoreOfValue_44 rfl (lv_at hl 1 rfl) ?_
        refine lv_bipush (v := 10) hx hb dX2_takesMoreOfValue_45 (by decide) ?_
        refine lv_aload_n hx hb dX2_takesMoreOfValue_47 rfl (lv_at hl 1 rfl) ?_
        refine g_get (q0 := 0) (v := .int (nI nu)) C0 G in_X2 rfl rfl 5 (by decide) fl_X2_57 (fun _ h => h) rfl dX2_takesMoreOfValue_48 ?_
        refine lv_imul hx hb dX2_takesMoreOfValue_51 ?_
        refine g_topi (x' := nI (10 * nu)) (pk_mul 10 nu) ?_
        refine lv_iload_n hx hb dX2_takesMoreOfValue_52 rfl (lv_at hl 0 rfl) ?_
        refine lv_iadd hx hb dX2_takesMoreOfValue_53 ?_
        refine g_topi (x' := nI ((10 * nu) + (ch - 48))) (nI_add (10 * nu) (ch - 48)) ?_
        refine g_put (q0 := 0) (W2 := (h, .inr (6, [.int (nI sp), .int (nI lt), .int (bI ib), .int (nI rw), .int (nI cl), .int (nI ((10 * nu) + (ch - 48)))])) :: R) C0 G ft_X2 in_X2 rfl rfl 5 (by decide) fl_X2_57 (fun _ h => h) rfl rfl rfl (Nat.le_of_ble_eq_true rfl) rfl dX2_takesMoreOfValue_54 (fun H locs G => ?_)
        refine lv_iconst (v := 1) hx hb dX2_takesMoreOfValue_57 (by decide) ?_
        exact g_zret C0 G rfl ⟨by first | rfl | (simp [mvOk, mvA, bI, c_9, c_25, c_39]; done) | (simp [mvOk, mvA, bI, c_9, c_25, c_39]; omega), by first | rfl | (simp [mvOk, mvA, bI, c_9, c_25, c_39]; done) | (simp [mvOk, mvA, bI, c_9, c_25, c_39]; omega)⟩ dX2_takesMoreOfValue_58
      · skip
        have c_39 : ¬ (((10 * nu) + (ch - 48)) ≤ 127) := fun h => c_39 ((nI_leI (a := (10 * nu) + (ch - 48)) (b := 127) (by omega) (by omega)).mpr h)
        refine lv_iconst (v := 0) hx hb dX2_takesMoreOfValue_42 (by decide) ?_
        exact g_zret C0 G rfl ⟨by first | rfl | (simp [mvOk, mvA, bI, c_9, c_25, c_39]; done) | (simp [mvOk, mvA, bI, c_9, c_25, c_39]; omega), by first | rfl | (simp [mvOk, mvA, bI, c_9, c_25, c_39]; done) | (simp [mvOk, mvA, bI, c_9, c_25, c_39]; omega)⟩ dX2_takesMoreOfValue_43
  · skip
    have c_9 : dgOk 9 ch = false := dgI_n (by omega) c_9
    refine lv_aload_n hx hb dX2_takesMoreOfValue_12 rfl (lv_at hl 1 rfl) ?_
    refine lv_iload_n hx hb dX2_takesMoreOfValue_13 rfl (lv_at hl 2 rfl) ?_
    refine lv_bipush (v := 59) hx hb dX2_takesMoreOfValue_14 (by decide) ?_
    refine lv_iconst (v := 0) hx hb dX2_takesMoreOfValue_16 (by decide) ?_
    refine g_callV (As := [.int (nI ch), .int 59, .int 0]) (rest := []) (q0 := 0) C0 G (c_X2_takesSign l D cy (R := R) (h := h) (sp := sp) (lt := lt) (ib := ib) (rw := rw) (cl := cl) (nu := nu) (ch := ch) (due := 59) (nx := 0) (by omega) (by decide)) k_X2_takesSign ml_X2_28 rfl rfl dX2_takesMoreOfValue_17 rfl rfl hl.1 (Nat.le_of_ble_eq_true rfl) ⟨Nat.le_of_ble_eq_true rfl, Nat.le_of_ble_eq_true rfl⟩ ⟨Nat.le_of_ble_eq_true rfl, Nat.le_of_ble_eq_true rfl⟩ (fun r W2 H locs hp G => ?_)
    obtain ⟨rfl, hw⟩ := hp
    have G := g_wc hw G
    refine W.eq (g2 := F0 m 20 ls [.int (bI (decide (ch = 59)))]) rfl ?_
    exact g_zret C0 G (g_nz _) ⟨by first | rfl | (simp [mvOk, mvA, bI, c_9]; done) | (simp [mvOk, mvA, bI, c_9]; omega), by first | rfl | (simp [mvOk, mvA, bI, c_9]; done) | (simp [mvOk, mvA, bI, c_9]; omega)⟩ dX2_takesMoreOfValue_20

set_option maxHeartbeats 4000000 in
set_option maxRecDepth 100000 in
theorem c_X2_takes (l : Launch) (D : va_G) (cy : Nat → ClassId) (R : va_W) (h : Nat) (sp : Nat) (lt : Nat) (ib : Bool) (rw : Nat) (cl : Nat) (nu : Nat) (ch : Nat) (h1 : ch < 65536) (h2 : sp < 9) (h3 : lt < 65536) (h4 : nu < 1000) : GE l D (gts cy) yX2_takes cX2_takes 2 (some .boolean) 2 0 0 [.ref h, .int (nI ch)] ((h, .inr (6, [.int (nI sp), .int (nI lt), .int (bI ib), .int (nI rw), .int (nI cl), .int (nI nu)])) :: R) (gF (some (.int (bI (tkOk ch sp lt nu)))) ((h, .inr (6, [.int (nI (tkSp ch sp lt nu)), .int (nI (tkLt ch sp lt)), .int (bI (tkIb ch sp ib)), .int (nI (tkRw ch sp lt rw)), .int (nI (tkCl ch sp cl)), .int (nI (tkNu ch sp nu))])) :: R)) := by
  refine g_intro (by decide +kernel) (lv := [(0, .ref h), (1, .int (nI ch))]) rfl (Nat.le_of_ble_eq_true rfl) ?_
  intro p e s m below meth c C0 G ls hl
  have hx := C0.1
  have hb := C0.2.1
  have hown := C0.2.2.2.2.2.1
  have hts := C0.2.2.2.2.2.2.1
  refine lv_aload_n hx hb dX2_takes_0 rfl (lv_at hl 0 rfl) ?_
  refine g_get (q0 := 0) (v := .int (nI sp)) C0 G in_X2 rfl rfl 0 (by decide) fl_X2_11 (fun _ h => h) rfl dX2_takes_1 ?_
  by_cases s_4_0 : sp = 0
  · skip
    refine lv_tableIn (off := 48) (tgt := 52) hx hb dX2_takes_4 (by rw [s_4_0]; decide) (by rw [s_4_0]; decide) (by rw [s_4_0]; rfl) (by decide) ?_
    refine lv_aload_n hx hb dX2_takes_52 rfl (lv_at hl 0 rfl) ?_
    refine lv_iload_n hx hb dX2_takes_53 rfl (lv_at hl 1 rfl) ?_
    refine g_callV (As := [.int (nI ch)]) (rest := []) (q0 := 0) C0 G (c_X2_takesLetter l D cy (R := R) (h := h) (sp := sp) (lt := lt) (ib := ib) (rw := rw) (cl := cl) (nu := nu) (ch := ch) (by omega)) k_X2_takesLetter ml_X2_15 rfl rfl dX2_takes_54 rfl rfl hl.1 (Nat.le_of_ble_eq_true rfl) ⟨Nat.le_of_ble_eq_true rfl, Nat.le_of_ble_eq_true rfl⟩ ⟨Nat.le_of_ble_eq_true rfl, Nat.le_of_ble_eq_true rfl⟩ (fun r W2 H locs hp G => ?_)
    obtain ⟨rfl, hw⟩ := hp
    have G := g_wc hw G
    refine W.eq (g2 := F0 m 57 ls [.int (bI (ltOk ch))]) rfl ?_
    exact g_zret C0 G (g_nz _) ⟨by first | rfl | (exfalso; omega) | (simp only [tkOk, tkSp, tkLt, tkIb, tkRw, tkCl, tkNu, s_4_0, Bool.false_eq_true, ↓reduceIte, eq_self, decide_true, decide_false, not_true_eq_false, not_false_eq_true, Bool.true_and, Bool.false_and, Bool.and_true, Bool.and_false]; done) | (simp [tkOk, tkSp, tkLt, tkIb, tkRw, tkCl, tkNu, s_4_0]; done) | (simp [tkOk, tkSp, tkLt, tkIb, tkRw, tkCl, tkNu, s_4_0]; rfl) | (simp [tkOk, tkSp, tkLt, tkIb, tkRw, tkCl, tkNu, s_4_0]; omega), by first | rfl | (exfalso; omega) | (simp only [tkOk, tkSp, tkLt, tkIb, tkRw, tkCl, tkNu, s_4_0, Bool.false_eq_true, ↓reduceIte, eq_self, decide_true, decide_false, not_true_eq_false, not_false_eq_true, Bool.true_and, Bool.false_and, Bool.and_true, Bool.and_false]; done) | (simp [tkOk, tkSp, tkLt, tkIb, tkRw, tkCl, tkNu, s_4_0]; done) | (simp [tkOk, tkSp, tkLt, tkIb, tkRw, tkCl, tkNu, s_4_0]; rfl) | (simp [tkOk, tkSp, tkLt, tkIb, tkRw, tkCl, tkNu, s_4_0]; omega)⟩ dX2_takes_57
  by_cases s_4_1 : sp = 1
  · skip
    refine lv_tableIn (off := 54) (tgt := 58) hx hb dX2_takes_4 (by rw [s_4_1]; decide) (by rw [s_4_1]; decide) (by rw [s_4_1]; rfl) (by decide) ?_
    refine lv_aload_n hx hb dX2_takes_58 rfl (lv_at hl 0 rfl) ?_
    refine lv_iload_n hx hb dX2_takes_59 rfl (lv_at hl 1 rfl) ?_
    refine g_callV (As := [.int (nI ch)]) (rest := []) (q0 := 0) C0 G (c_X2_takesFace l D cy (R := R) (h := h) (sp := sp) (lt := lt) (ib := ib) (rw := rw) (cl := cl) (nu := nu) (ch := ch) (by omega)) k_X2_takesFace ml_X2_19 rfl rfl dX2_takes_60 rfl rfl hl.1 (Nat.le_of_ble_eq_true rfl) ⟨Nat.le_of_ble_eq_true rfl, Nat.le_of_ble_eq_true rfl⟩ ⟨Nat.le_of_ble_eq_true rfl, Nat.le_of_ble_eq_true rfl⟩ (fun r W2 H locs hp G => ?_)
    obtain ⟨rfl, hw⟩ := hp
    have G := g_wc hw G
    refine W.eq (g2 := F0 m 63 ls [.int (bI (fcOk ch))]) rfl ?_
    exact g_zret C0 G (g_nz _) ⟨by first | rfl | (exfalso; omega) | (simp only [tkOk, tkSp, tkLt, tkIb, tkRw, tkCl, tkNu, s_4_0, s_4_1, Bool.false_eq_true, ↓reduceIte, eq_self, decide_true, decide_false, not_true_eq_false, not_false_eq_true, Bool.true_and, Bool.false_and, Bool.and_true, Bool.and_false]; done) | (simp [tkOk, tkSp, tkLt, tkIb, tkRw, tkCl, tkNu, s_4_0, s_4_1]; done) | (simp [tkOk, tkSp, tkLt, tkIb, tkRw, tkCl, tkNu, s_4_0, s_4_1]; rfl) | (simp [tkOk, tkSp, tkLt, tkIb, tkRw, tkCl, tkNu, s_4_0, s_4_1]; omega), by first | rfl | (exfalso; omega) | (simp only [tkOk, tkSp, tkLt, tkIb, tkRw, tkCl, tkNu, s_4_0, s_4_1, Bool.false_eq_true, ↓reduceIte, eq_self, decide_true, decide_false, not_true_eq_false, not_false_eq_true, Bool.true_and, Bool.false_and, Bool.and_true, Bool.and_false]; done) | (simp [tkOk, tkSp, tkLt, tkIb, tkRw, tkCl, tkNu, s_4_0, s_4_1]; done) | (simp [tkOk, tkSp, tkLt, tkIb, tkRw, tkCl, tkNu, s_4_0, s_4_1]; rfl) | (simp [tkOk, tkSp, tkLt, tkIb, tkRw, tkCl, tkNu, s_4_0, s_4_1]; omega)⟩ dX2_takes_63
  by_cases s_4_2 : sp = 2
  · skip
    refine lv_tableIn (off := 60) (tgt := 64) hx hb dX2_takes_4 (by rw [s_4_2]; decide) (by rw [s_4_2]; decide) (by rw [s_4_2]; rfl) (by decide) ?_
    refine lv_aload_n hx hb dX2_takes_64 rfl (lv_at hl 0 rfl) ?_
    refine lv_iload_n hx hb dX2_takes_65 rfl (lv_at hl 1 rfl) ?_
    refine g_callV (As := [.int (nI ch)]) (rest := []) (q0 := 0) C0 G (c_X2_takesRow l D cy (R := R) (h := h) (sp := sp) (lt := lt) (ib := ib) (rw := rw) (cl := cl) (nu := nu) (ch := ch) (by omega) (by omega)) k_X2_takesRow ml_X2_22 rfl rfl dX2_takes_66 rfl rfl hl.1 (Nat.le_of_ble_eq_true rfl) ⟨Nat.le_of_ble_eq_true rfl, Nat.le_of_ble_eq_true rfl⟩ ⟨Nat.le_of_ble_eq_true rfl, Nat.le_of_ble_eq_true rfl⟩ (fun r W2 H locs hp G => ?_)
    obtain ⟨rfl, hw⟩ := hp
    have G := g_wc hw G
    refine W.eq (g2 := F0 m 69 ls [.int (bI (dgOk (moR lt) ch))]) rfl ?_
    exact g_zret C0 G (g_nz _) ⟨by first | rfl | (exfalso; omega) | (simp only [tkOk, tkSp, tkLt, tkIb, tkRw, tkCl, tkNu, s_4_0, s_4_1, s_4_2, Bool.false_eq_true, ↓reduceIte, eq_self, decide_true, decide_false, not_true_eq_false, not_false_eq_true, Bool.true_and, Bool.false_and, Bool.and_true, Bool.and_false]; done) | (simp [tkOk, tkSp, tkLt, tkIb, tkRw, tkCl, tkNu, s_4_0, s_4_1, s_4_2]; done) | (simp [tkOk, tkSp, tkLt, tkIb, tkRw, tkCl, tkNu, s_4_0, s_4_1, s_4_2]; rfl) | (simp [tkOk, tkSp, tkLt, tkIb, tkRw, tkCl, tkNu, s_4_0, s_4_1, s_4_2]; omega), by first | rfl | (exfalso; omega) | (simp only [tkOk, tkSp, tkLt, tkIb, tkRw, tkCl, tkNu, s_4_0, s_4_1, s_4_2, Bool.false_eq_true, ↓reduceIte, eq_self, decide_true, decide_false, not_true_eq_false, not_false_eq_true, Bool.true_and, Bool.false_and, Bool.and_true, Bool.and_false]; done) | (simp [tkOk, tkSp, tkLt, tkIb, tkRw, tkCl, tkNu, s_4_0, s_4_1, s_4_2]; done) | (simp [tkOk, tkSp, tkLt, tkIb, tkRw, tkCl, tkNu, s_4_0, s_4_1, s_4_2]; rfl) | (simp [tkOk, tkSp, tkLt, tkIb, tkRw, tkCl, tkNu, s_4_0, s_4_1, s_4_2]; omega)⟩ dX2_takes_69
  by_cases s_4_3 : sp = 3
  · skip
    refine lv_tableIn (off := 66) (tgt := 70) hx hb dX2_takes_4 (by rw [s_4_3]; decide) (by rw [s_4_3]; decide) (by rw [s_4_3]; rfl) (by decide) ?_
    refine lv_aload_n hx hb dX2_takes_70 rfl (lv_at hl 0 rfl) ?_
    refine lv_iload_n hx hb dX2_takes_71 rfl (lv_at hl 1 rfl) ?_
    refine g_callV (As := [.int (nI ch)]) (rest := []) (q0 := 0) C0 G (c_X2_takesColumn l D cy (R := R) (h := h) (sp := sp) (lt := lt) (ib := ib) (rw := rw) (cl := cl) (nu := nu) (ch := ch) (by omega)) k_X2_takesColumn ml_X2_25 rfl rfl dX2_takes_72 rfl rfl hl.1 (Nat.le_of_ble_eq_true rfl) ⟨Nat.le_of_ble_eq_true rfl, Nat.le_of_ble_eq_true rfl⟩ ⟨Nat.le_of_ble_eq_true rfl, Nat.le_of_ble_eq_true rfl⟩ (fun r W2 H locs hp G => ?_)
    obtain ⟨rfl, hw⟩ := hp
    have G := g_wc hw G
    refine W.eq (g2 := F0 m 75 ls [.int (bI (dgOk 7 ch))]) rfl ?_
    exact g_zret C0 G (g_nz _) ⟨by first | rfl | (exfalso; omega) | (simp only [tkOk, tkSp, tkLt, tkIb, tkRw, tkCl, tkNu, s_4_0, s_4_1, s_4_2, s_4_3, Bool.false_eq_true, ↓reduceIte, eq_self, decide_true, decide_false, not_true_eq_false, not_false_eq_true, Bool.true_and, Bool.false_and, Bool.and_true, Bool.and_false]; done) | (simp [tkOk, tkSp, tkLt, tkIb, tkRw, tkCl, tkNu, s_4_0, s_4_1, s_4_2, s_4_3]; done) | (simp [tkOk, tkSp, tkLt, tkIb, tkRw, tkCl, tkNu, s_4_0, s_4_1, s_4_2, s_4_3]; rfl) | (simp [tkOk, tkSp, tkLt, tkIb, tkRw, tkCl, tkNu, s_4_0, s_4_1, s_4_2, s_4_3]; omega), by first | rfl | (exfalso; omega) | (simp only [tkOk, tkSp, tkLt, tkIb, tkRw, tkCl, tkNu, s_4_0, s_4_1, s_4_2, s_4_3, Bool.false_eq_true, ↓reduceIte, eq_self, decide_true, decide_false, not_true_eq_false, not_false_eq_true, Bool.true_and, Bool.false_and, Bool.and_true, Bool.and_false]; done) | (simp [tkOk, tkSp, tkLt, tkIb, tkRw, tkCl, tkNu, s_4_0, s_4_1, s_4_2, s_4_3]; done) | (simp [tkOk, tkSp, tkLt, tkIb, tkRw, tkCl, tkNu, s_4_0, s_4_1, s_4_2, s_4_3]; rfl) | (simp [tkOk, tkSp, tkLt, tkIb, tkRw, tkCl, tkNu, s_4_0, s_4_1, s_4_2, s_4_3]; omega)⟩ dX2_takes_75
  by_cases s_4_4 : sp = 4
  · skip
    refine lv_tableIn (off := 72) (tgt := 76) hx hb dX2_takes_4 (by rw [s_4_4]; decide) (by rw [s_4_4]; decide) (by rw [s_4_4]; rfl) (by decide) ?_
    refine lv_aload_n hx hb dX2_takes_76 rfl (lv_at hl 0 rfl) ?_
    refine lv_iload_n hx hb dX2_takes_77 rfl (lv_at hl 1 rfl) ?_
    refine lv_bipush (v := 61) hx hb dX2_takes_78 (by decide) ?_
    refine lv_iconst (v := 5) hx hb dX2_takes_80 (by decide) ?_
    refine g_callV (As := [.int (nI ch), .int 61, .int 5]) (rest := []) (q0 := 0) C0 G (c_X2_takesSign l D cy (R := R) (h := h) (sp := sp) (lt := lt) (ib := ib) (rw := rw) (cl := cl) (nu := nu) (ch := ch) (due := 61) (nx := 5) (by omega) (by decide)) k_X2_takesSign ml_X2_28 rfl rfl dX2_takes_81 rfl rfl hl.1 (Nat.le_of_ble_eq_true rfl) ⟨Nat.le_of_ble_eq_true rfl, Nat.le_of_ble_eq_true rfl⟩ ⟨Nat.le_of_ble_eq_true rfl, Nat.le_of_ble_eq_true rfl⟩ (fun r W2 H locs hp G => ?_)
    obtain ⟨rfl, hw⟩ := hp
    have G := g_wc hw G
    refine W.eq (g2 := F0 m 84 ls [.int (bI (decide (ch = 61)))]) rfl ?_
    exact g_zret C0 G (g_nz _) ⟨by first | rfl | (exfalso; omega) | (simp only [tkOk, tkSp, tkLt, tkIb, tkRw, tkCl, tkNu, s_4_0, s_4_1, s_4_2, s_4_3, s_4_4, Bool.false_eq_true, ↓reduceIte, eq_self, decide_true, decide_false, not_true_eq_false, not_false_eq_true, Bool.true_and, Bool.false_and, Bool.and_true, Bool.and_false]; done) | (simp [tkOk, tkSp, tkLt, tkIb, tkRw, tkCl, tkNu, s_4_0, s_4_1, s_4_2, s_4_3, s_4_4]; done) | (simp [tkOk, tkSp, tkLt, tkIb, tkRw, tkCl, tkNu, s_4_0, s_4_1, s_4_2, s_4_3, s_4_4]; rfl) | (simp [tkOk, tkSp, tkLt, tkIb, tkRw, tkCl, tkNu, s_4_0, s_4_1, s_4_2, s_4_3, s_4_4]; omega), by first | rfl | (exfalso; omega) | (simp only [tkOk, tkSp, tkLt, tkIb, tkRw, tkCl, tkNu, s_4_0, s_4_1, s_4_2, s_4_3, s_4_4, Bool.false_eq_true, ↓reduceIte, eq_self, decide_true, decide_false, not_true_eq_false, not_false_eq_true, Bool.true_and, Bool.false_and, Bool.and_true, Bool.and_false]; done) | (simp [tkOk, tkSp, tkLt, tkIb, tkRw, tkCl, tkNu, s_4_0, s_4_1, s_4_2, s_4_3, s_4_4]; done) | (simp [tkOk, tkSp, tkLt, tkIb, tkRw, tkCl, tkNu, s_4_0, s_4_1, s_4_2, s_4_3, s_4_4]; rfl) | (simp [tkOk, tkSp, tkLt, tkIb, tkRw, tkCl, tkNu, s_4_0, s_4_1, s_4_2, s_4_3, s_4_4]; omega)⟩ dX2_takes_84
  by_cases s_4_5 : sp = 5
  · skip
    refine lv_tableIn (off := 81) (tgt := 85) hx hb dX2_takes_4 (by rw [s_4_5]; decide) (by rw [s_4_5]; decide) (by rw [s_4_5]; rfl) (by decide) ?_
    refine lv_aload_n hx hb dX2_takes_85 rfl (lv_at hl 0 rfl) ?_
    refine lv_iload_n hx hb dX2_takes_86 rfl (lv_at hl 1 rfl) ?_
    refine lv_bipush (v := 9) hx hb dX2_takes_87 (by decide) ?_
    refine lv_bipush (v := 6) hx hb dX2_takes_89 (by decide) ?_
    refine g_callV (As := [.int (nI ch), .int 9, .int 6]) (rest := []) (q0 := 0) C0 G (c_X2_takesNumber l D cy (R := R) (h := h) (sp := sp) (lt := lt) (ib := ib) (rw := rw) (cl := cl) (nu := nu) (ch := ch) (most := 9) (nx := 6) (by omega) (by decide)) k_X2_takesNumber ml_X2_32 rfl rfl dX2_takes_91 rfl rfl hl.1 (Nat.le_of_ble_eq_true rfl) ⟨Nat.le_of_ble_eq_true rfl, Nat.le_of_ble_eq_true rfl⟩ ⟨Nat.le_of_ble_eq_true rfl, Nat.le_of_ble_eq_true rfl⟩ (fun r W2 H locs hp G => ?_)
    obtain ⟨rfl, hw⟩ := hp
    have G := g_wc hw G
    refine W.eq (g2 := F0 m 94 ls [.int (bI (dgOk 9 ch))]) rfl ?_
    exact g_zret C0 G (g_nz _) ⟨by first | rfl | (exfalso; omega) | (simp only [tkOk, tkSp, tkLt, tkIb, tkRw, tkCl, tkNu, s_4_0, s_4_1, s_4_2, s_4_3, s_4_4, s_4_5, Bool.false_eq_true, ↓reduceIte, eq_self, decide_true, decide_false, not_true_eq_false, not_false_eq_true, Bool.true_and, Bool.false_and, Bool.and_true, Bool.and_false]; done) | (simp [tkOk, tkSp, tkLt, tkIb, tkRw, tkCl, tkNu, s_4_0, s_4_1, s_4_2, s_4_3, s_4_4, s_4_5]; done) | (simp [tkOk, tkSp, tkLt, tkIb, tkRw, tkCl, tkNu, s_4_0, s_4_1, s_4_2, s_4_3, s_4_4, s_4_5]; rfl) | (simp [tkOk, tkSp, tkLt, tkIb, tkRw, tkCl, tkNu, s_4_0, s_4_1, s_4_2, s_4_3, s_4_4, s_4_5]; omega), by first | rfl | (exfalso; omega) | (simp only [tkOk, tkSp, tkLt, tkIb, tkRw, tkCl, tkNu, s_4_0, s_4_1, s_4_2, s_4_3, s_4_4, s_4_5, Bool.false_eq_true, ↓reduceIte, eq_self, decide_true, decide_false, not_true_eq_false, not_false_eq_true, Bool.true_and, Bool.false_and, Bool.and_true, Bool.and_false]; done) | (simp [tkOk, tkSp, tkLt, tkIb, tkRw, tkCl, tkNu, s_4_0, s_4_1, s_4_2, s_4_3, s_4_4, s_4_5]; done) | (simp [tkOk, tkSp, tkLt, tkIb, tkRw, tkCl, tkNu, s_4_0, s_4_1, s_4_2, s_4_3, s_4_4, s_4_5]; rfl) | (simp [tkOk, tkSp, tkLt, tkIb, tkRw, tkCl, tkNu, s_4_0, s_4_1, s_4_2, s_4_3, s_4_4, s_4_5]; omega)⟩ dX2_takes_94
  by_cases s_4_6 : sp = 6
  · skip
    refine lv_tableIn (off := 91) (tgt := 95) hx hb dX2_takes_4 (by rw [s_4_6]; decide) (by rw [s_4_6]; decide) (by rw [s_4_6]; rfl) (by decide) ?_
    refine lv_aload_n hx hb dX2_takes_95 rfl (lv_at hl 0 rfl) ?_
    refine lv_iload_n hx hb dX2_takes_96 rfl (lv_at hl 1 rfl) ?_
    refine g_callV (As := [.int (nI ch)]) (rest := []) (q0 := 0) C0 G (c_X2_takesMoreOfValue l D cy (R := R) (h := h) (sp := sp) (lt := lt) (ib := ib) (rw := rw) (cl := cl) (nu := nu) (ch := ch) (by omega) (by omega)) k_X2_takesMoreOfValue ml_X2_36 rfl rfl dX2_takes_97 rfl rfl hl.1 (Nat.le_of_ble_eq_true rfl) ⟨Nat.le_of_ble_eq_true rfl, Nat.le_of_ble_eq_true rfl⟩ ⟨Nat.le_of_ble_eq_true rfl, Nat.le_of_ble_eq_true rfl⟩ (fun r W2 H locs hp G => ?_)
    obtain ⟨rfl, hw⟩ := hp
    have G := g_wc hw G
    refine W.eq (g2 := F0 m 100 ls [.int (bI (mvOk ch nu))]) rfl ?_
    exact g_zret C0 G (g_nz _) ⟨by first | rfl | (exfalso; omega) | (simp only [tkOk, tkSp, tkLt, tkIb, tkRw, tkCl, tkNu, s_4_0, s_4_1, s_4_2, s_4_3, s_4_4, s_4_5, s_4_6, Bool.false_eq_true, ↓reduceIte, eq_self, decide_true, decide_false, not_true_eq_false, not_false_eq_true, Bool.true_and, Bool.false_and, Bool.and_true, Bool.and_false]; done) | (simp [tkOk, tkSp, tkLt, tkIb, tkRw, tkCl, tkNu, s_4_0, s_4_1, s_4_2, s_4_3, s_4_4, s_4_5, s_4_6]; done) | (simp [tkOk, tkSp, tkLt, tkIb, tkRw, tkCl, tkNu, s_4_0, s_4_1, s_4_2, s_4_3, s_4_4, s_4_5, s_4_6]; rfl) | (simp [tkOk, tkSp, tkLt, tkIb, tkRw, tkCl, tkNu, s_4_0, s_4_1, s_4_2, s_4_3, s_4_4, s_4_5, s_4_6]; omega), by first | rfl | (exfalso; omega) | (simp only [tkOk, tkSp, tkLt, tkIb, tkRw, tkCl, tkNu, s_4_0, s_4_1, s_4_2, s_4_3, s_4_4, s_4_5, s_4_6, Bool.false_eq_true, ↓reduceIte, eq_self, decide_true, decide_false, not_true_eq_false, not_false_eq_true, Bool.true_and, Bool.false_and, Bool.and_true, Bool.and_false]; done) | (simp [tkOk, tkSp, tkLt, tkIb, tkRw, tkCl, tkNu, s_4_0, s_4_1, s_4_2, s_4_3, s_4_4, s_4_5, s_4_6]; done) | (simp [tkOk, tkSp, tkLt, tkIb, tkRw, tkCl, tkNu, s_4_0, s_4_1, s_4_2, s_4_3, s_4_4, s_4_5, s_4_6]; rfl) | (simp [tkOk, tkSp, tkLt, tkIb, tkRw, tkCl, tkNu, s_4_0, s_4_1, s_4_2, s_4_3, s_4_4, s_4_5, s_4_6]; omega)⟩ dX2_takes_100
  by_cases s_4_7 : sp = 7
  · skip
    refine lv_tableIn (off := 97) (tgt := 101) hx hb dX2_takes_4 (by rw [s_4_7]; decide) (by rw [s_4_7]; decide) (by rw [s_4_7]; rfl) (by decide) ?_
    refine lv_aload_n hx hb dX2_takes_101 rfl (lv_at hl 0 rfl) ?_
    refine lv_iload_n hx hb dX2_takes_102 rfl (lv_at hl 1 rfl) ?_
    refine lv_iconst (v := 3) hx hb dX2_takes_103 (by decide) ?_
    refine lv_bipush (v := 8) hx hb dX2_takes_104 (by decide) ?_
    refine g_callV (As := [.int (nI ch), .int 3, .int 8]) (rest := []) (q0 := 0) C0 G (c_X2_takesNumber l D cy (R := R) (h := h) (sp := sp) (lt := lt) (ib := ib) (rw := rw) (cl := cl) (nu := nu) (ch := ch) (most := 3) (nx := 8) (by omega) (by decide)) k_X2_takesNumber ml_X2_32 rfl rfl dX2_takes_106 rfl rfl hl.1 (Nat.le_of_ble_eq_true rfl) ⟨Nat.le_of_ble_eq_true rfl, Nat.le_of_ble_eq_true rfl⟩ ⟨Nat.le_of_ble_eq_true rfl, Nat.le_of_ble_eq_true rfl⟩ (fun r W2 H locs hp G => ?_)
    obtain ⟨rfl, hw⟩ := hp
    have G := g_wc hw G
    refine W.eq (g2 := F0 m 109 ls [.int (bI (dgOk 3 ch))]) rfl ?_
    exact g_zret C0 G (g_nz _) ⟨by first | rfl | (exfalso; omega) | (simp only [tkOk, tkSp, tkLt, tkIb, tkRw, tkCl, tkNu, s_4_0, s_4_1, s_4_2, s_4_3, s_4_4, s_4_5, s_4_6, s_4_7, Bool.false_eq_true, ↓reduceIte, eq_self, decide_true, decide_false, not_true_eq_false, not_false_eq_true, Bool.true_and, Bool.false_and, Bool.and_true, Bool.and_false]; done) | (simp [tkOk, tkSp, tkLt, tkIb, tkRw, tkCl, tkNu, s_4_0, s_4_1, s_4_2, s_4_3, s_4_4, s_4_5, s_4_6, s_4_7]; done) | (simp [tkOk, tkSp, tkLt, tkIb, tkRw, tkCl, tkNu, s_4_0, s_4_1, s_4_2, s_4_3, s_4_4, s_4_5, s_4_6, s_4_7]; rfl) | (simp [tkOk, tkSp, tkLt, tkIb, tkRw, tkCl, tkNu, s_4_0, s_4_1, s_4_2, s_4_3, s_4_4, s_4_5, s_4_6, s_4_7]; omega), by first | rfl | (exfalso; omega) | (simp only [tkOk, tkSp, tkLt, tkIb, tkRw, tkCl, tkNu, s_4_0, s_4_1, s_4_2, s_4_3, s_4_4, s_4_5, s_4_6, s_4_7, Bool.false_eq_true, ↓reduceIte, eq_self, decide_true, decide_false, not_true_eq_false, not_false_eq_true, Bool.true_and, Bool.false_and, Bool.and_true, Bool.and_false]; done) | (simp [tkOk, tkSp, tkLt, tkIb, tkRw, tkCl, tkNu, s_4_0, s_4_1, s_4_2, s_4_3, s_4_4, s_4_5, s_4_6, s_4_7]; done) | (simp [tkOk, tkSp, tkLt, tkIb, tkRw, tkCl, tkNu, s_4_0, s_4_1, s_4_2, s_4_3, s_4_4, s_4_5, s_4_6, s_4_7]; rfl) | (simp [tkOk, tkSp, tkLt, tkIb, tkRw, tkCl, tkNu, s_4_0, s_4_1, s_4_2, s_4_3, s_4_4, s_4_5, s_4_6, s_4_7]; omega)⟩ dX2_takes_109
  refine lv_tableOut (tgt := 110) hx hb dX2_takes_4 (Or.inr (by rw [nI_toInt (by omega)]; omega)) (by decide) ?_
  refine lv_aload_n hx hb dX2_takes_110 rfl (lv_at hl 0 rfl) ?_
  refine lv_iload_n hx hb dX2_takes_111 rfl (lv_at hl 1 rfl) ?_
  refine lv_bipush (v := 59) hx hb dX2_takes_112 (by decide) ?_
  refine lv_iconst (v := 0) hx hb dX2_takes_114 (by decide) ?_
  refine g_callV (As := [.int (nI ch), .int 59, .int 0]) (rest := []) (q0 := 0) C0 G (c_X2_takesSign l D cy (R := R) (h := h) (sp := sp) (lt := lt) (ib := ib) (rw := rw) (cl := cl) (nu := nu) (ch := ch) (due := 59) (nx := 0) (by omega) (by decide)) k_X2_takesSign ml_X2_28 rfl rfl dX2_takes_115 rfl rfl hl.1 (Nat.le_of_ble_eq_true rfl) ⟨Nat.le_of_ble_eq_true rfl, Nat.le_of_ble_eq_true rfl⟩ ⟨Nat.le_of_ble_eq_true rfl, Nat.le_of_ble_eq_true rfl⟩ (fun r W2 H locs hp G => ?_)
  obtain ⟨rfl, hw⟩ := hp
  have G := g_wc hw G
  refine W.eq (g2 := F0 m 118 ls [.int (bI (decide (ch = 59)))]) rfl ?_
  exact g_zret C0 G (g_nz _) ⟨by first | rfl | (exfalso; omega) | (simp only [tkOk, tkSp, tkLt, tkIb, tkRw, tkCl, tkNu, s_4_0, s_4_1, s_4_2, s_4_3, s_4_4, s_4_5, s_4_6, s_4_7, Bool.false_eq_true, ↓reduceIte, eq_self, decide_true, decide_false, not_true_eq_false, not_false_eq_true, Bool.true_and, Bool.false_and, Bool.and_true, Bool.and_false]; done) | (simp [tkOk, tkSp, tkLt, tkIb, tkRw, tkCl, tkNu, s_4_0, s_4_1, s_4_2, s_4_3, s_4_4, s_4_5, s_4_6, s_4_7]; done) | (simp [tkOk, tkSp, tkLt, tkIb, tkRw, tkCl, tkNu, s_4_0, s_4_1, s_4_2, s_4_3, s_4_4, s_4_5, s_4_6, s_4_7]; rfl) | (simp [tkOk, tkSp, tkLt, tkIb, tkRw, tkCl, tkNu, s_4_0, s_4_1, s_4_2, s_4_3, s_4_4, s_4_5, s_4_6, s_4_7]; omega), by first | rfl | (exfalso; omega) | (simp only [tkOk, tkSp, tkLt, tkIb, tkRw, tkCl, tkNu, s_4_0, s_4_1, s_4_2, s_4_3, s_4_4, s_4_5, s_4_6, s_4_7, Bool.false_eq_true, ↓reduceIte, eq_self, decide_true, decide_false, not_true_eq_false, not_false_eq_true, Bool.true_and, Bool.false_and, Bool.and_true, Bool.and_false]; done) | (simp [tkOk, tkSp, tkLt, tkIb, tkRw, tkCl, tkNu, s_4_0, s_4_1, s_4_2, s_4_3, s_4_4, s_4_5, s_4_6, s_4_7]; done) | (simp [tkOk, tkSp, tkLt, tkIb, tkRw, tkCl, tkNu, s_4_0, s_4_1, s_4_2, s_4_3, s_4_4, s_4_5, s_4_6, s_4_7]; rfl) | (simp [tkOk, tkSp, tkLt, tkIb, tkRw, tkCl, tkNu, s_4_0, s_4_1, s_4_2, s_4_3, s_4_4, s_4_5, s_4_6, s_4_7]; omega)⟩ dX2_takes_118
